import java.util.ArrayDeque;
import java.util.ArrayList;
import java.util.Arrays;
import java.util.Deque;
import java.util.HashMap;
import java.util.List;
import java.util.Map;
import java.util.NoSuchElementException;

/** The document once more, in the slowest and plainest way: what GlassCity is compared with. */
final class Model {
    /** A pane, as the document tells it. */
    static final class Pane {
        int thick = 4;
        int heat = 10;
        int sand = 0;
        int cracks = 0;
        int owner = 0;
        int lamp = 0;

        Pane copy() {
            Pane p = new Pane();
            p.thick = thick;
            p.heat = heat;
            p.sand = sand;
            p.cracks = cracks;
            p.owner = owner;
            p.lamp = lamp;
            return p;
        }
    }

    record Cart(int weight, int pane, int from, int to, boolean felt) {
        boolean at(int hour) {
            for (int h = from, i = 0; i < 24; h = (h + 1) % 24, i++) {
                if (h == hour) {
                    return true;
                }
                if (h == to) {
                    return false;
                }
            }
            return false;
        }
    }

    /** A LINE of SHAME: its condition is read anew from its words each time. */
    record Line(String kind, int fine, List<Token> condition) {
    }

    record Token(char kind, String text, int start) {
    }

    static final class Wrong extends Exception {
        private static final long serialVersionUID = 1L;
        final int at;

        Wrong(int at) {
            this.at = at;
        }
    }

    private static final class State {
        int wide = 3;
        int high = 3;
        List<Pane> panes = new ArrayList<>();
        List<Cart> carts = new ArrayList<>();
        List<int[]> offers = new ArrayList<>();
        List<Line> shame = null;
        int texts = 0;
        int run = 10;

        State() {
            lay(3, 3);
        }

        void lay(int w, int h) {
            wide = w;
            high = h;
            panes = new ArrayList<>();
            for (int i = 0; i < w * h; i++) {
                panes.add(new Pane());
            }
            carts = new ArrayList<>();
            for (int[] row : offers) {
                Arrays.fill(row, 0);
            }
        }

        State copy() {
            State s = new State();
            s.wide = wide;
            s.high = high;
            s.panes = copyOf(panes);
            s.carts = new ArrayList<>(carts);
            for (int[] row : offers) {
                s.offers.add(row.clone());
            }
            s.shame = shame;
            s.texts = texts;
            s.run = run;
            return s;
        }
    }

    private State s = new State();
    private State image = null;
    private final Deque<List<Pane>> acts = new ArrayDeque<>();
    private String tape = "";
    private int fault = -1;

    private static List<Pane> copyOf(List<Pane> panes) {
        List<Pane> copy = new ArrayList<>();
        for (Pane p : panes) {
            copy.add(p.copy());
        }
        return copy;
    }

    // ---- the tape and texts

    int feed(int... numbers) {
        if (tape.length() + 20 > 400) {
            return -1;
        }
        for (int n : numbers) {
            tape += "" + (char) (n >>> 24) + (char) (n >>> 16 & 255) + (char) (n >>> 8 & 255) + (char) (n & 255);
        }
        return tape.length();
    }

    boolean end(int n) {
        if (n < 0 || tape.length() < n) {
            return false;
        }
        tape = tape.substring(0, n);
        return true;
    }

    private static List<Token> tokens(String text) {
        List<Token> all = new ArrayList<>();
        int i = 0;
        while (i < text.length()) {
            char c = text.charAt(i);
            int from = i;
            i++;
            if (c == ' ') {
                continue;
            }
            char kind = c;
            if (c >= 'a' && c <= 'z') {
                kind = 'w';
                while (i < text.length() && text.charAt(i) >= 'a' && text.charAt(i) <= 'z') {
                    i++;
                }
            } else if (c >= '0' && c <= '9') {
                kind = 'n';
                while (i < text.length() && text.charAt(i) >= '0' && text.charAt(i) <= '9') {
                    i++;
                }
            }
            all.add(new Token(kind, text.substring(from, i), from));
        }
        all.add(new Token('e', "", text.length()));
        return all;
    }

    /** Things one behind another. */
    private static final class Things {
        final List<Token> all;
        int at = 0;

        Things(List<Token> all) {
            this.all = all;
        }

        Token next() {
            return all.get(at);
        }

        boolean is(String text) {
            return next().text.equals(text) && next().kind != 'e';
        }

        boolean take(String text) {
            if (is(text)) {
                at++;
                return true;
            }
            return false;
        }

        void must(String text) throws Wrong {
            if (!take(text)) {
                throw new Wrong(next().start);
            }
        }

        int number(int least, int most) throws Wrong {
            Token t = next();
            if (t.kind != 'n' || t.text.length() > 3 || Integer.parseInt(t.text) < least || Integer.parseInt(t.text) > most) {
                throw new Wrong(t.start);
            }
            at++;
            return Integer.parseInt(t.text);
        }

        boolean isEnd() {
            return next().kind == 'e';
        }
    }

    int city() {
        String text = tape;
        tape = "";
        State draft = s.copy();
        try {
            readCity(new Things(tokens(text)), draft);
        } catch (Wrong w) {
            fault = w.at;
            throw new IllegalArgumentException();
        }
        fault = -1;
        if (s.texts == 10) {
            throw new UnsupportedOperationException();
        }
        s = draft;
        s.texts++;
        acts.clear();
        return s.texts;
    }

    private static void readCity(Things t, State d) throws Wrong {
        if (t.isEnd()) {
            return;
        }
        for (int line = 1;; line++) {
            if (line > 14) {
                throw new Wrong(t.next().start);
            }
            readCityLine(t, d);
            if (t.isEnd()) {
                return;
            }
            t.must(";");
        }
    }

    private static void readCityLine(Things t, State d) throws Wrong {
        Token word = t.next();
        if (t.take("size")) {
            int w = t.number(1, 6);
            int h = t.number(1, 5);
            d.lay(w, h);
        } else if (t.take("cart")) {
            if (d.carts.size() == 12) {
                throw new Wrong(word.start);
            }
            int weight = t.number(1, 200);
            int pane = t.number(0, d.wide - 1) + d.wide * t.number(0, d.high - 1);
            int from = t.number(0, 23);
            t.must("to");
            int to = t.number(0, 23);
            d.carts.add(new Cart(weight, pane, from, to, t.take("felt")));
        } else if (List.of("thick", "heat", "cold", "sand", "owner", "lamp").contains(word.text)) {
            t.at++;
            Pane p = d.panes.get(t.number(0, d.wide - 1) + d.wide * t.number(0, d.high - 1));
            switch (word.text) {
                case "thick" -> p.thick = t.number(1, 9);
                case "heat" -> p.heat = t.number(0, 60);
                case "cold" -> p.heat = -t.number(0, 40);
                case "sand" -> p.sand = t.number(0, 100);
                case "owner" -> p.owner = t.number(0, 7);
                default -> p.lamp = t.number(0, 99);
            }
        } else {
            throw new Wrong(word.start);
        }
    }

    int shame() {
        String text = tape;
        tape = "";
        List<Line> lines = new ArrayList<>();
        try {
            readShame(new Things(tokens(text)), lines);
        } catch (Wrong w) {
            fault = w.at;
            throw new IllegalArgumentException();
        }
        fault = -1;
        s.shame = lines;
        return lines.size();
    }

    private void readShame(Things t, List<Line> lines) throws Wrong {
        if (t.isEnd()) {
            return;
        }
        for (;;) {
            String kind = t.next().text;
            if (lines.size() == 12 || !List.of("hide", "show", "fine").contains(kind)) {
                throw new Wrong(t.next().start);
            }
            t.at++;
            int fine = kind.equals("fine") ? t.number(0, 999) : 0;
            List<Token> condition = null;
            if (t.take("if")) {
                int from = t.at;
                any(t, 0, 0, 0);
                condition = new ArrayList<>(t.all.subList(from, t.at));
                condition.add(new Token('e', "", 0));
            }
            lines.add(new Line(kind, fine, condition));
            if (t.isEnd()) {
                return;
            }
            t.must(";");
        }
    }

    private boolean any(Things t, int deep, int pane, int hour) throws Wrong {
        boolean holds = all(t, deep, pane, hour);
        while (t.take("or")) {
            holds |= all(t, deep, pane, hour);
        }
        return holds;
    }

    private boolean all(Things t, int deep, int pane, int hour) throws Wrong {
        boolean holds = atom(t, deep, pane, hour);
        while (t.take("and")) {
            holds &= atom(t, deep, pane, hour);
        }
        return holds;
    }

    private boolean atom(Things t, int deep, int pane, int hour) throws Wrong {
        if (t.is("not") || t.is("(")) {
            if (deep == 6) {
                throw new Wrong(t.next().start);
            }
            if (t.take("not")) {
                return !atom(t, deep + 1, pane, hour);
            }
            t.must("(");
            boolean holds = any(t, deep + 1, pane, hour);
            t.must(")");
            return holds;
        }
        int a = sum(t, pane, hour);
        if (!t.is("<") && !t.is(">")) {
            throw new Wrong(t.next().start);
        }
        boolean less = t.take("<");
        if (!less) {
            t.must(">");
        }
        int b = sum(t, pane, hour);
        return less ? a < b : a > b;
    }

    private int sum(Things t, int pane, int hour) throws Wrong {
        int sum = part(t, pane, hour);
        while (t.take("+")) {
            sum += part(t, pane, hour);
        }
        return sum;
    }

    private int part(Things t, int pane, int hour) throws Wrong {
        String word = t.next().text;
        if (List.of("thick", "sand", "cracks", "hour", "light", "owner", "load").contains(word)) {
            t.at++;
            Pane p = s.panes.get(pane);
            switch (word) {
                case "thick": return p.thick;
                case "sand": return p.sand;
                case "cracks": return p.cracks;
                case "hour": return hour;
                case "light": return light(pane, hour, 2);
                case "owner": return p.owner;
                default: return load(pane, hour);
            }
        }
        return t.number(0, 999);
    }

    int fault() {
        return fault;
    }

    // ---- panes

    private void needPane(int pane) {
        if (pane < 0 || pane >= s.panes.size()) {
            throw new IndexOutOfBoundsException();
        }
    }

    private static void needHour(int hour) {
        if (hour < 0 || hour > 23) {
            throw new IndexOutOfBoundsException();
        }
    }

    private static void need(boolean right) {
        if (!right) {
            throw new IllegalArgumentException();
        }
    }

    private static int bears(Pane p) {
        if (p.cracks == 3) {
            return 0;
        }
        int b = 10 * p.thick * p.thick;
        b -= 30 * p.cracks;
        if (p.heat < 0) {
            b += p.heat;
        }
        return b < 0 ? 0 : b;
    }

    int pane(int pane, int what) {
        needPane(pane);
        Pane p = s.panes.get(pane);
        int[] all = {p.thick, p.heat, p.sand, p.cracks, p.owner, p.lamp, bears(p)};
        if (what < 0 || what > 6) {
            throw new NoSuchElementException();
        }
        return all[what];
    }

    int cart(int cart, int what) {
        if (cart < 0 || cart >= s.carts.size()) {
            throw new IndexOutOfBoundsException();
        }
        Cart c = s.carts.get(cart);
        int[] all = {c.weight, c.pane, c.from, c.to, c.felt ? 1 : 0};
        if (what < 0 || what > 4) {
            throw new NoSuchElementException();
        }
        return all[what];
    }

    private void act() {
        acts.addLast(copyOf(s.panes));
        if (acts.size() > 12) {
            acts.removeFirst();
        }
    }

    int strew(int pane, int sand) {
        needPane(pane);
        need(sand >= 0 && sand <= 100);
        act();
        int was = s.panes.get(pane).sand;
        s.panes.get(pane).sand = sand;
        return was;
    }

    int runs(int n) {
        need(n >= 0 && n <= 100);
        int was = s.run;
        s.run = n;
        return was;
    }

    int load(int pane, int hour) {
        needPane(pane);
        needHour(hour);
        int sum = 0;
        for (Cart c : s.carts) {
            if (c.pane == pane && c.at(hour)) {
                sum += c.felt ? c.weight : c.weight + c.weight;
            }
        }
        return sum;
    }

    boolean holds(int pane, int hour, int more) {
        needPane(pane);
        needHour(hour);
        need(more >= 0 && more <= 999);
        return s.panes.get(pane).cracks != 3 && load(pane, hour) + more <= bears(s.panes.get(pane));
    }

    int breaks(int hour) {
        needHour(hour);
        int set = 0;
        for (int p = 0; p < s.panes.size(); p++) {
            set += holds(p, hour, 0) ? 0 : 1 << p;
        }
        return set;
    }

    // ---- light

    private static int sun(int hour) {
        return hour < 6 || hour > 18 ? 0 : 100 - 12 * (hour > 12 ? hour - 12 : 12 - hour);
    }

    int light(int pane, int hour, int what) {
        needPane(pane);
        needHour(hour);
        Pane p = s.panes.get(pane);
        int down = sun(hour) * (100 - p.sand) / 100;
        down = down * (12 - p.thick) / 12;
        down = Math.max(0, down - 5 * p.cracks);
        int[] all = {down, sun(hour) - down, down + p.lamp};
        if (what < 0 || what > 2) {
            throw new NoSuchElementException();
        }
        return all[what];
    }

    int bill(int owner, int hour, int price) {
        if (owner < 0 || owner > 7) {
            throw new IndexOutOfBoundsException();
        }
        needHour(hour);
        need(price >= 0 && price <= 999);
        long sum = 0;
        for (int p = 0; p < s.panes.size(); p++) {
            sum += s.panes.get(p).owner == owner ? light(p, hour, 0) : 0;
        }
        return (int) (sum * price / 10);
    }

    private boolean lineHolds(Line line, int pane, int hour) {
        if (line.condition == null) {
            return true;
        }
        try {
            return any(new Things(line.condition), 0, pane, hour);
        } catch (Wrong w) {
            throw new IllegalStateException("a line that was right is wrong now");
        }
    }

    boolean seen(int pane, int hour) {
        needPane(pane);
        needHour(hour);
        if (s.shame != null) {
            for (Line line : s.shame) {
                if (!line.kind.equals("fine") && lineHolds(line, pane, hour)) {
                    return line.kind.equals("show");
                }
            }
        }
        return light(pane, hour, 2) > 20;
    }

    int fined(int pane, int hour) {
        if (!seen(pane, hour) || s.shame == null) {
            return 0;
        }
        int sum = 0;
        for (Line line : s.shame) {
            if (line.kind.equals("fine") && lineHolds(line, pane, hour)) {
                sum += line.fine;
            }
        }
        return sum;
    }

    // ---- seers

    int seer() {
        if (s.offers.size() == 6) {
            throw new UnsupportedOperationException();
        }
        s.offers.add(new int[30]);
        return s.offers.size() - 1;
    }

    private void needSeer(int seer) {
        if (seer < 0 || seer >= s.offers.size()) {
            throw new IndexOutOfBoundsException();
        }
    }

    int offer(int seer, int pane, int much) {
        needSeer(seer);
        needPane(pane);
        need(much >= 0 && much <= 99);
        int was = s.offers.get(seer)[pane];
        s.offers.get(seer)[pane] = much;
        return was;
    }

    /** The first best of all ways to sell: of each seer the pane, and last what all pay. */
    private int[] bestSale(int hour, int without) {
        int n = s.offers.size();
        int[] best = new int[n + 1];
        best[n] = -1;
        boolean[] open = new boolean[s.panes.size()];
        for (int p = 0; p < open.length; p++) {
            open[p] = seen(p, hour);
        }
        tryAll(0, without, 0, new int[n], open, best);
        return best;
    }

    private void tryAll(int seer, int without, int sum, int[] has, boolean[] open, int[] best) {
        int n = has.length;
        if (seer == n) {
            if (sum > best[n]) {
                System.arraycopy(has, 0, best, 0, n);
                best[n] = sum;
            }
            return;
        }
        has[seer] = -1;
        tryAll(seer + 1, without, sum, has, open, best);
        for (int p = 0; p < open.length && seer != without; p++) {
            // one who pays nothing had better none: that is as much, and is first
            if (open[p] && s.offers.get(seer)[p] > 0) {
                open[p] = false;
                has[seer] = p;
                tryAll(seer + 1, without, sum + s.offers.get(seer)[p], has, open, best);
                open[p] = true;
            }
        }
    }

    int sale(int hour, int seer) {
        needHour(hour);
        if (seer != -1) {
            needSeer(seer);
        }
        int[] best = bestSale(hour, -1);
        return seer == -1 ? best[best.length - 1] : best[seer];
    }

    int lost(int hour, int seer) {
        needHour(hour);
        needSeer(seer);
        int[] with = bestSale(hour, -1);
        int[] without = bestSale(hour, seer);
        int others = 0;
        for (int o = 0; o < s.offers.size(); o++) {
            others += o != seer && with[o] >= 0 ? s.offers.get(o)[with[o]] : 0;
        }
        return without[without.length - 1] - others;
    }

    // ---- lamps

    private List<Integer> beside(int pane) {
        int x = pane % s.wide;
        int y = pane / s.wide;
        List<Integer> all = new ArrayList<>();
        if (y > 0) {
            all.add(pane - s.wide);
        }
        if (x + 1 < s.wide) {
            all.add(pane + 1);
        }
        if (y + 1 < s.high) {
            all.add(pane + s.wide);
        }
        if (x > 0) {
            all.add(pane - 1);
        }
        return all;
    }

    private int[] given(int pane) {
        int[] all = new int[s.panes.size()];
        all[pane] = 50;
        for (int q : beside(pane)) {
            all[q] = 25;
        }
        return all;
    }

    int share(int pane, int owner, int cost) {
        needPane(pane);
        if (owner < 0 || owner > 7) {
            throw new IndexOutOfBoundsException();
        }
        need(cost >= 0 && cost <= 9999);
        int[] gets = new int[8];
        int whole = 0;
        int[] given = given(pane);
        for (int p = 0; p < given.length; p++) {
            gets[s.panes.get(p).owner] += given[p];
            whole += given[p];
        }
        int[] pays = new int[8];
        int left = cost;
        for (int o = 0; o < 8; o++) {
            pays[o] = cost * gets[o] / whole;
            left -= pays[o];
        }
        for (int o = 0; left > 0; o = (o + 1) % 8) {
            if (gets[o] > 0) {
                pays[o]++;
                left--;
            }
        }
        return pays[owner];
    }

    /** All sets of at most so many panes: the fewest first, then the least as bits. */
    private List<Integer> setsUpTo(int most) {
        List<Integer> all = new ArrayList<>();
        int n = s.panes.size();
        all.add(0);
        for (int a = 0; a < n; a++) {
            all.add(1 << a);
            for (int b = a + 1; b < n && most > 1; b++) {
                all.add(1 << a | 1 << b);
                for (int c = b + 1; c < n && most > 2; c++) {
                    all.add(1 << a | 1 << b | 1 << c);
                }
            }
        }
        all.sort((u, v) -> Integer.bitCount(u) != Integer.bitCount(v)
                ? Integer.compare(Integer.bitCount(u), Integer.bitCount(v)) : Integer.compare(u, v));
        return all;
    }

    int lamps(int set, int hour) {
        needHour(hour);
        int n = s.panes.size();
        int[][] given = new int[n][];
        int[] light = new int[n];
        for (int p = 0; p < n; p++) {
            given[p] = given(p);
            light[p] = light(p, hour, 2);
        }
        for (int lamps : setsUpTo(3)) {
            boolean enough = true;
            for (int p = 0; p < n && enough; p++) {
                int sum = light[p];
                for (int l = 0; l < n; l++) {
                    sum += (lamps >> l & 1) * given[l][p];
                }
                enough = (set >> p & 1) == 0 || sum >= 50;
            }
            if (enough) {
                return lamps;
            }
        }
        return -1;
    }

    // ---- ways

    int weakest(int hour) {
        needHour(hour);
        int best = 0;
        for (int p = 0; p < s.panes.size(); p++) {
            if (bears(s.panes.get(p)) - load(p, hour) < bears(s.panes.get(best)) - load(best, hour)) {
                best = p;
            }
        }
        return best;
    }

    /** The first way with the fewest hours; null without one. */
    private List<Integer> way(int from, int to, int hour, int weight) {
        int n = s.panes.size();
        boolean[][] free = new boolean[24][n];
        for (int h = 0; h < 24; h++) {
            for (int p = 0; p < n; p++) {
                free[h][p] = holds(p, h, weight);
            }
        }
        for (int hours = 0; hours <= 48; hours++) {
            Map<Integer, Boolean> dead = new HashMap<>();
            List<Integer> way = new ArrayList<>();
            if (go(from, to, hour, hours, free, dead, way)) {
                return way;
            }
        }
        return null;
    }

    private boolean go(int at, int to, int hour, int left, boolean[][] free, Map<Integer, Boolean> dead, List<Integer> way) {
        if (!free[hour % 24][at] || dead.containsKey(100 * at + left)) {
            return false;
        }
        way.add(at);
        if (left == 0 && at == to) {
            return true;
        }
        if (left > 0) {
            List<Integer> next = new ArrayList<>();
            next.add(at);
            next.addAll(beside(at));
            for (int q : next) {
                if (go(q, to, hour + 1, left - 1, free, dead, way)) {
                    return true;
                }
            }
        }
        way.remove(way.size() - 1);
        dead.put(100 * at + left, true);
        return false;
    }

    private void needWay(int from, int to, int hour) {
        needPane(from);
        needPane(to);
        needHour(hour);
    }

    int parade(int from, int to, int hour, int weight, int k) {
        needWay(from, to, hour);
        need(weight >= 0 && weight <= 999 && k >= -1);
        List<Integer> way = way(from, to, hour, weight);
        if (way == null) {
            return -1;
        }
        if (k == -1) {
            return way.size() - 1;
        }
        return k < way.size() ? way.get(k) : -1;
    }

    int heaviest(int from, int to, int hour) {
        needWay(from, to, hour);
        for (int weight = 999; weight >= 0; weight--) {
            if (holds(from, hour, weight) && way(from, to, hour, weight) != null) {
                return weight;
            }
        }
        return -1;
    }

    int strengthen(int from, int to, int hour, int weight) {
        needWay(from, to, hour);
        need(weight >= 0 && weight <= 999);
        List<Pane> before = s.panes;
        int best = -1;
        for (int set : setsUpTo(2)) {
            s.panes = copyOf(before);
            for (int p = 0; p < before.size(); p++) {
                if ((set >> p & 1) != 0) {
                    s.panes.get(p).thick = 9;
                }
            }
            if (way(from, to, hour, weight) != null) {
                best = set;
                break;
            }
        }
        s.panes = before;
        return best;
    }

    // ---- blows

    private int strike(int pane, int force) {
        needPane(pane);
        need(force >= 1 && force <= 999);
        int set = 0;
        Pane p = s.panes.get(pane);
        int left = force - bears(p);
        if (left <= 0) {
            return 0;
        }
        if (p.cracks < 3) {
            p.cracks++;
            set |= 1 << pane;
        }
        int latest = pane;
        for (;;) {
            int next = -1;
            int off = -1;
            for (int q : beside(latest)) {
                int far = Math.abs(s.panes.get(q).heat - s.panes.get(latest).heat);
                if (s.panes.get(q).cracks == 0 && far >= s.run && left > 5 * s.panes.get(q).thick && far > off) {
                    next = q;
                    off = far;
                }
            }
            if (next == -1) {
                return set;
            }
            s.panes.get(next).cracks++;
            left -= 5 * s.panes.get(next).thick;
            set |= 1 << next;
            latest = next;
        }
    }

    int blow(int pane, int force) {
        List<Pane> before = copyOf(s.panes);
        int set = strike(pane, force);
        List<Pane> after = s.panes;
        s.panes = before;
        act();
        s.panes = after;
        return Integer.bitCount(set);
    }

    int would(int pane, int force) {
        List<Pane> before = copyOf(s.panes);
        try {
            return strike(pane, force);
        } finally {
            s.panes = before;
        }
    }

    int trace(int set, int most, boolean first) {
        need(most >= 1 && most <= 300);
        int n = s.panes.size();
        int wanted = set & (int) ((1L << n) - 1);
        int sum = 0;
        for (int p = 0; p < n; p++) {
            for (int force = 1; force <= most; force++) {
                if (would(p, force) == wanted) {
                    if (first) {
                        return 1000 * p + force;
                    }
                    sum++;
                }
            }
        }
        return first ? -1 : sum;
    }

    // ---- frost

    private static int chance(Pane p) {
        return Math.max(0, Math.min(100, 3 * (0 - p.heat) - p.thick));
    }

    int frost(int seed, int n) {
        need(n >= 1 && n <= 60);
        act();
        int[] now = {seed};
        int sum = 0;
        for (Pane p : s.panes) {
            p.heat = Math.max(-40, p.heat - draw(now) % n);
            if (p.heat < 0 && p.cracks < 3) {
                if (draw(now) % 100 < chance(p)) {
                    p.cracks++;
                    sum++;
                }
            }
        }
        return sum;
    }

    private static int draw(int[] seed) {
        seed[0] = (int) (1103515245L * seed[0] + 12345L);
        return (int) ((seed[0] & 0x7fff0000L) / 65536);
    }

    int odds() {
        long odds = 1000000000;
        for (Pane p : s.panes) {
            if (p.cracks < 3 && p.heat < 0) {
                odds = odds * (100 - chance(p)) / 100;
            }
        }
        return (int) odds;
    }

    int spread(int k) {
        long[] row = new long[40];
        row[0] = 1000000000;
        for (Pane p : s.panes) {
            if (p.cracks < 3 && p.heat < 0) {
                long[] next = new long[40];
                for (int i = 0; i < 40; i++) {
                    next[i] = row[i] * (100 - chance(p)) / 100 + (i > 0 ? row[i - 1] * chance(p) / 100 : 0);
                }
                row = next;
            }
        }
        return k < 0 || k >= 40 ? 0 : (int) row[k];
    }

    // ---- mending

    boolean may(int set) {
        int n = s.panes.size();
        boolean[] been = new boolean[n];
        Deque<Integer> todo = new ArrayDeque<>();
        todo.add(0);
        while (!todo.isEmpty()) {
            int p = todo.poll();
            if (been[p] || (set >> p & 1) != 0 || s.panes.get(p).cracks == 3) {
                continue;
            }
            been[p] = true;
            todo.addAll(beside(p));
        }
        return been[n - 1];
    }

    int round() {
        List<Integer> cracked = new ArrayList<>();
        for (int p = 0; p < s.panes.size() && cracked.size() < 10; p++) {
            if (s.panes.get(p).cracks > 0) {
                cracked.add(p);
            }
        }
        int best = 0;
        for (int choice = 0; choice < 1 << cracked.size(); choice++) {
            int set = 0;
            for (int i = 0; i < cracked.size(); i++) {
                set |= (choice >> i & 1) << cracked.get(i);
            }
            int more = Integer.bitCount(set) - Integer.bitCount(best);
            if ((more > 0 || more == 0 && set < best) && may(set)) {
                best = set;
            }
        }
        return best;
    }

    private int mendRound() {
        int set = round();
        int sum = 0;
        for (int p = 0; p < s.panes.size(); p++) {
            if ((set >> p & 1) != 0) {
                sum += s.panes.get(p).cracks;
                s.panes.get(p).cracks = 0;
            }
        }
        return sum;
    }

    int mend() {
        act();
        return mendRound();
    }

    int rounds() {
        List<Pane> before = s.panes;
        s.panes = copyOf(before);
        int sum = 0;
        while (round() != 0) {
            mendRound();
            sum++;
        }
        s.panes = before;
        return sum;
    }

    // ---- acts and the image

    boolean undo() {
        if (acts.isEmpty()) {
            return false;
        }
        s.panes = acts.removeLast();
        return true;
    }

    void image() {
        image = s.copy();
    }

    boolean back() {
        if (image == null) {
            return false;
        }
        s = image.copy();
        acts.clear();
        return true;
    }

    int count(int what) {
        int cracks = 0;
        int broken = 0;
        int sand = 0;
        for (Pane p : s.panes) {
            cracks += p.cracks;
            broken += p.cracks == 3 ? 1 : 0;
            sand += p.sand;
        }
        int[] all = {s.wide, s.high, s.carts.size(), s.texts, s.shame == null ? -1 : s.shame.size(), s.offers.size(),
            cracks, broken, acts.size(), sand};
        return what >= 0 && what < all.length ? all[what] : -1;
    }

    int panes() {
        return s.panes.size();
    }

    int wide() {
        return s.wide;
    }

    int high() {
        return s.high;
    }
}
