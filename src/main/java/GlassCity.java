import java.util.Arrays;
import java.util.NoSuchElementException;

/**
 * A city whose streets are glass. What every call does is said in ../shared/DOC.md by numbered promises;
 * sets of panes are bits throughout, so that ways and rounds are found by shifts of whole sets.
 */
public final class GlassCity {
    public static final int NONE = -1;

    private static final int MOST_PANES = 30;
    private static final int MOST_CARTS = 12;
    private static final int MOST_SEERS = 6;
    private static final int MOST_BYTES = 400;
    private static final int MOST_TEXTS = 10;
    private static final int MOST_HOURS = 48;
    private static final int MOST_WEIGHT = 999;
    private static final int HOURS = 24;
    private static final int OWNERS = 8;
    private static final int BROKEN = 3;
    private static final int SIDES = 4;
    private static final int THICKEST = 9;

    private City now = new City();
    private City draft = new City();
    private final City kept = new City();
    private Law law = new Law();
    private Law lawDraft = new Law();
    private final Law lawKept = new Law();
    private final Tape tape = new Tape();
    private final Past past = new Past();
    private final Crack crack = new Crack();
    private final Walk walk = new Walk();
    private final Market market = new Market();
    private final long[] chances = new long[MOST_PANES + 1];
    private int firstWrong = NONE;
    private boolean hasImage = false;

    public GlassCity() {
    }

    public int feed(int a, int b, int c, int d, int e) {
        if (!tape.hasRoom(20)) {
            return NONE;
        }
        tape.put(a);
        tape.put(b);
        tape.put(c);
        tape.put(d);
        tape.put(e);
        return tape.length;
    }

    public boolean end(int n) {
        if (n < 0 || n > tape.length) {
            return false;
        }
        tape.length = n;
        return true;
    }

    public int city() throws IllegalArgumentException, UnsupportedOperationException {
        draft.become(now);
        tape.open();
        boolean right = CityReader.read(tape, draft);
        firstWrong = tape.close();
        if (!right) {
            throw new IllegalArgumentException();
        }
        if (now.texts >= MOST_TEXTS) {
            throw new UnsupportedOperationException();
        }
        City before = now;
        now = draft;
        draft = before;
        now.texts++;
        past.forget();
        return now.texts;
    }

    public int shame() throws IllegalArgumentException {
        tape.open();
        boolean right = lawDraft.read(tape);
        firstWrong = tape.close();
        if (!right) {
            throw new IllegalArgumentException();
        }
        Law before = law;
        law = lawDraft;
        lawDraft = before;
        return law.lines;
    }

    public int fault() {
        return firstWrong;
    }

    public int pane(int pane, int what) throws IndexOutOfBoundsException, NoSuchElementException {
        checkPane(pane);
        switch (what) {
            case 0: return now.thick[pane];
            case 1: return now.heat[pane];
            case 2: return now.sand[pane];
            case 3: return now.cracks[pane];
            case 4: return now.owner[pane];
            case 5: return now.lamp[pane];
            case 6: return now.bears(pane);
            default: throw new NoSuchElementException();
        }
    }

    public int cart(int cart, int what) throws IndexOutOfBoundsException, NoSuchElementException {
        if (cart < 0 || cart >= now.carts) {
            throw new IndexOutOfBoundsException();
        }
        if (what < 0 || what >= City.CART_ROW) {
            throw new NoSuchElementException();
        }
        return now.cartRows[City.CART_ROW * cart + what];
    }

    public int strew(int pane, int sand) throws IndexOutOfBoundsException, IllegalArgumentException {
        checkPane(pane);
        checkWithin(sand, 0, 100);
        past.remember(now);
        int before = now.sand[pane];
        now.sand[pane] = sand;
        return before;
    }

    public int runs(int n) throws IllegalArgumentException {
        checkWithin(n, 0, 100);
        int before = now.run;
        now.run = n;
        return before;
    }

    public int load(int pane, int hour) throws IndexOutOfBoundsException {
        checkPane(pane);
        checkHour(hour);
        return now.loadOn(pane, hour);
    }

    public boolean holds(int pane, int hour, int more) throws IndexOutOfBoundsException, IllegalArgumentException {
        checkPane(pane);
        checkHour(hour);
        checkWithin(more, 0, MOST_WEIGHT);
        return now.holdsWith(pane, hour, more);
    }

    public int breaks(int hour) throws IndexOutOfBoundsException {
        checkHour(hour);
        int set = 0;
        for (int pane = 0; pane < now.panes; pane++) {
            if (!now.holdsWith(pane, hour, 0)) {
                set |= 1 << pane;
            }
        }
        return set;
    }

    public int light(int pane, int hour, int what) throws IndexOutOfBoundsException, NoSuchElementException {
        checkPane(pane);
        checkHour(hour);
        switch (what) {
            case 0: return now.letDown(pane, hour);
            case 1: return City.sun(hour) - now.letDown(pane, hour);
            case 2: return now.lightBelow(pane, hour);
            default: throw new NoSuchElementException();
        }
    }

    public int bill(int owner, int hour, int price) throws IndexOutOfBoundsException, IllegalArgumentException {
        checkOwner(owner);
        checkHour(hour);
        checkWithin(price, 0, 999);
        int sum = 0;
        for (int pane = 0; pane < now.panes; pane++) {
            if (now.owner[pane] == owner) {
                sum += now.letDown(pane, hour);
            }
        }
        return sum * price / 10;
    }

    public boolean seen(int pane, int hour) throws IndexOutOfBoundsException {
        checkPane(pane);
        checkHour(hour);
        return law.lets(now, pane, hour);
    }

    public int fined(int pane, int hour) throws IndexOutOfBoundsException {
        checkPane(pane);
        checkHour(hour);
        return law.fineFor(now, pane, hour);
    }

    public int seer() throws UnsupportedOperationException {
        if (now.seers >= MOST_SEERS) {
            throw new UnsupportedOperationException();
        }
        now.seers++;
        return now.seers - 1;
    }

    public int offer(int seer, int pane, int much) throws IndexOutOfBoundsException, IllegalArgumentException {
        checkSeer(seer);
        checkPane(pane);
        checkWithin(much, 0, 99);
        int place = MOST_PANES * seer + pane;
        int before = now.offers[place];
        now.offers[place] = much;
        return before;
    }

    public int sale(int hour, int seer) throws IndexOutOfBoundsException {
        checkHour(hour);
        if (seer != NONE) {
            checkSeer(seer);
        }
        market.sell(now, law, hour);
        return seer == NONE ? market.paidByAll() : market.soldTo(seer);
    }

    public int lost(int hour, int seer) throws IndexOutOfBoundsException {
        checkHour(hour);
        checkSeer(seer);
        market.sell(now, law, hour);
        int sold = market.soldTo(seer);
        int paid = sold == NONE ? 0 : now.offers[MOST_PANES * seer + sold];
        return market.paidWithout(seer) - (market.paidByAll() - paid);
    }

    public int share(int pane, int owner, int cost) throws IndexOutOfBoundsException, IllegalArgumentException {
        checkPane(pane);
        checkOwner(owner);
        checkWithin(cost, 0, 9999);
        return Lamps.costOf(now, pane, owner, cost);
    }

    public int weakest(int hour) throws IndexOutOfBoundsException {
        checkHour(hour);
        int weakest = 0;
        int least = now.bears(0) - now.loadOn(0, hour);
        for (int pane = 1; pane < now.panes; pane++) {
            int spare = now.bears(pane) - now.loadOn(pane, hour);
            if (spare < least) {
                least = spare;
                weakest = pane;
            }
        }
        return weakest;
    }

    public int strengthen(int from, int to, int hour, int weight)
            throws IndexOutOfBoundsException, IllegalArgumentException {
        checkWay(from, to, hour);
        checkWithin(weight, 0, MOST_WEIGHT);
        walk.look(now, from, to, hour);
        return walk.strengthened(now, weight);
    }

    public int spread(int k) {
        if (k < 0 || k > now.panes) {
            return 0;
        }
        Frost.spreadOver(now, chances);
        return (int) chances[k];
    }

    public int blow(int pane, int force) throws IndexOutOfBoundsException, IllegalArgumentException {
        checkPane(pane);
        checkWithin(force, 1, 999);
        past.remember(now);
        int set = crack.strike(now, pane, force);
        for (int other = 0; other < now.panes; other++) {
            now.cracks[other] += set >> other & 1;
        }
        return Integer.bitCount(set);
    }

    public int would(int pane, int force) throws IndexOutOfBoundsException, IllegalArgumentException {
        checkPane(pane);
        checkWithin(force, 1, 999);
        return crack.strike(now, pane, force);
    }

    public int trace(int set, int most, boolean first) throws IllegalArgumentException {
        checkWithin(most, 1, 300);
        int wanted = set & now.all;
        return first ? crack.firstBack(now, wanted, most) : crack.countBack(now, wanted, most);
    }

    public int parade(int from, int to, int hour, int weight, int k)
            throws IndexOutOfBoundsException, IllegalArgumentException {
        checkWay(from, to, hour);
        checkWithin(weight, 0, MOST_WEIGHT);
        if (k < NONE) {
            throw new IllegalArgumentException();
        }
        walk.look(now, from, to, hour);
        int hours = walk.hoursWith(now, weight);
        if (k == NONE || hours == NONE) {
            return hours;
        }
        return k > hours ? NONE : walk.paneBehind(now, k, hours);
    }

    public int heaviest(int from, int to, int hour) throws IndexOutOfBoundsException {
        checkWay(from, to, hour);
        walk.look(now, from, to, hour);
        return walk.heaviestWeight(now);
    }

    public int frost(int seed, int n) throws IllegalArgumentException {
        checkWithin(n, 1, 60);
        past.remember(now);
        return Frost.freeze(now, seed, n);
    }

    public int odds() {
        return Frost.allHold(now);
    }

    public boolean may(int set) {
        return Mending.isWay(now, now.all & ~now.withCracks(BROKEN) & ~set);
    }

    public int round() {
        return Mending.greatest(now, now.withCracks(1), now.withCracks(BROKEN));
    }

    public int mend() {
        int set = Mending.greatest(now, now.withCracks(1), now.withCracks(BROKEN));
        past.remember(now);
        int sum = 0;
        for (int pane = 0; pane < now.panes; pane++) {
            if ((set >> pane & 1) != 0) {
                sum += now.cracks[pane];
                now.cracks[pane] = 0;
            }
        }
        return sum;
    }

    public int rounds() {
        return Mending.countRounds(now);
    }

    public int lamps(int set, int hour) throws IndexOutOfBoundsException {
        checkHour(hour);
        return Lamps.fewest(now, set & now.all, hour);
    }

    public boolean undo() {
        return past.giveBack(now);
    }

    public void image() {
        kept.become(now);
        lawKept.become(law);
        hasImage = true;
    }

    public boolean back() {
        if (!hasImage) {
            return false;
        }
        now.become(kept);
        law.become(lawKept);
        past.forget();
        return true;
    }

    public int count(int what) {
        switch (what) {
            case 0: return now.wide;
            case 1: return now.high;
            case 2: return now.carts;
            case 3: return now.texts;
            case 4: return law.lines;
            case 5: return now.seers;
            case 6: return now.sumOf(now.cracks);
            case 7: return Integer.bitCount(now.withCracks(BROKEN));
            case 8: return past.acts;
            case 9: return now.sumOf(now.sand);
            default: return NONE;
        }
    }

    private void checkPane(int pane) {
        if (pane < 0 || pane >= now.panes) {
            throw new IndexOutOfBoundsException();
        }
    }

    private void checkSeer(int seer) {
        if (seer < 0 || seer >= now.seers) {
            throw new IndexOutOfBoundsException();
        }
    }

    private void checkWay(int from, int to, int hour) {
        checkPane(from);
        checkPane(to);
        checkHour(hour);
    }

    private static void checkHour(int hour) {
        if (hour < 0 || hour >= HOURS) {
            throw new IndexOutOfBoundsException();
        }
    }

    private static void checkOwner(int owner) {
        if (owner < 0 || owner >= OWNERS) {
            throw new IndexOutOfBoundsException();
        }
    }

    private static void checkWithin(int n, int least, int most) {
        if (n < least || n > most) {
            throw new IllegalArgumentException();
        }
    }

    /** All that THE IMAGE keeps but for the law: panes, carts, seers, and what follows from them alone. */
    private static final class City {
        static final int CART_ROW = 5;

        int wide;
        int high;
        int panes;
        int all;
        int leftEdge;
        int rightEdge;
        final int[] thick = new int[MOST_PANES];
        final int[] heat = new int[MOST_PANES];
        final int[] sand = new int[MOST_PANES];
        final int[] cracks = new int[MOST_PANES];
        final int[] owner = new int[MOST_PANES];
        final int[] lamp = new int[MOST_PANES];
        int carts;
        /** Of each cart WEIGHT, PANE, from, to, FELT: in the order in which the face asks for them. */
        final int[] cartRows = new int[CART_ROW * MOST_CARTS];
        int seers = 0;
        final int[] offers = new int[MOST_PANES * MOST_SEERS];
        int run = 10;
        int texts = 0;

        City() {
            layOut(3, 3);
        }

        void layOut(int newWide, int newHigh) {
            wide = newWide;
            high = newHigh;
            panes = newWide * newHigh;
            all = (1 << panes) - 1;
            leftEdge = 0;
            for (int y = 0; y < newHigh; y++) {
                leftEdge |= 1 << newWide * y;
            }
            rightEdge = leftEdge << newWide - 1;
            Arrays.fill(thick, 4);
            Arrays.fill(heat, 10);
            Arrays.fill(sand, 0);
            Arrays.fill(cracks, 0);
            Arrays.fill(owner, 0);
            Arrays.fill(lamp, 0);
            carts = 0;
            Arrays.fill(offers, 0);
        }

        void become(City other) {
            wide = other.wide;
            high = other.high;
            panes = other.panes;
            all = other.all;
            leftEdge = other.leftEdge;
            rightEdge = other.rightEdge;
            System.arraycopy(other.thick, 0, thick, 0, MOST_PANES);
            System.arraycopy(other.heat, 0, heat, 0, MOST_PANES);
            System.arraycopy(other.sand, 0, sand, 0, MOST_PANES);
            System.arraycopy(other.cracks, 0, cracks, 0, MOST_PANES);
            System.arraycopy(other.owner, 0, owner, 0, MOST_PANES);
            System.arraycopy(other.lamp, 0, lamp, 0, MOST_PANES);
            carts = other.carts;
            System.arraycopy(other.cartRows, 0, cartRows, 0, cartRows.length);
            seers = other.seers;
            System.arraycopy(other.offers, 0, offers, 0, offers.length);
            run = other.run;
            texts = other.texts;
        }

        /** The pane above, right, below, left (side 0 to 3) of one; NONE over the edge. */
        int beside(int pane, int side) {
            switch (side) {
                case 0: return pane >= wide ? pane - wide : NONE;
                case 1: return (rightEdge >> pane & 1) == 0 ? pane + 1 : NONE;
                case 2: return pane + wide < panes ? pane + wide : NONE;
                case 3: return (leftEdge >> pane & 1) == 0 ? pane - 1 : NONE;
                default: return NONE;
            }
        }

        int allBeside(int set) {
            int right = (set & ~rightEdge) << 1;
            int left = (set & ~leftEdge) >> 1;
            return (set >> wide | right | set << wide | left) & all;
        }

        int withCracks(int least) {
            int set = 0;
            for (int pane = 0; pane < panes; pane++) {
                if (cracks[pane] >= least) {
                    set |= 1 << pane;
                }
            }
            return set;
        }

        int sumOf(int[] row) {
            int sum = 0;
            for (int pane = 0; pane < panes; pane++) {
                sum += row[pane];
            }
            return sum;
        }

        int bears(int pane) {
            return bearsIfThick(pane, thick[pane]);
        }

        int bearsIfThick(int pane, int thickness) {
            if (cracks[pane] >= BROKEN) {
                return 0;
            }
            int much = 10 * thickness * thickness - 30 * cracks[pane] + Math.min(heat[pane], 0);
            return Math.max(much, 0);
        }

        boolean isThere(int cart, int hour) {
            int from = cartRows[CART_ROW * cart + 2];
            int to = cartRows[CART_ROW * cart + 3];
            return from <= to ? from <= hour && hour <= to : from <= hour || hour <= to;
        }

        int pressOf(int cart) {
            int weight = cartRows[CART_ROW * cart];
            return cartRows[CART_ROW * cart + 4] == 1 ? weight : 2 * weight;
        }

        int loadOn(int pane, int hour) {
            int sum = 0;
            for (int cart = 0; cart < carts; cart++) {
                if (cartRows[CART_ROW * cart + 1] == pane && isThere(cart, hour)) {
                    sum += pressOf(cart);
                }
            }
            return sum;
        }

        boolean holdsWith(int pane, int hour, int more) {
            return cracks[pane] < BROKEN && loadOn(pane, hour) + more <= bears(pane);
        }

        static int sun(int hour) {
            return hour < 6 || hour > 18 ? 0 : 100 - 12 * Math.abs(hour - 12);
        }

        int letDown(int pane, int hour) {
            int throughSand = sun(hour) * (100 - sand[pane]) / 100;
            int throughGlass = throughSand * (12 - thick[pane]) / 12;
            return Math.max(throughGlass - 5 * cracks[pane], 0);
        }

        int lightBelow(int pane, int hour) {
            return letDown(pane, hour) + lamp[pane];
        }
    }

    /** The bytes that were fed, and the reading of them thing by thing. */
    private static final class Tape {
        private final byte[] bytes = new byte[MOST_BYTES];
        int length = 0;
        private int at = 0;
        private int taken = 0;
        private int wrong = NONE;

        boolean hasRoom(int more) {
            return length + more <= MOST_BYTES;
        }

        void put(int four) {
            if (!hasRoom(4)) {
                return;
            }
            for (int shift = 24; shift >= 0; shift -= 8) {
                bytes[length] = (byte) (four >> shift);
                length++;
            }
        }

        void open() {
            at = 0;
            wrong = NONE;
        }

        /** The tape is used up: the first wrong byte of what was read. */
        int close() {
            length = 0;
            return wrong;
        }

        boolean isEnd() {
            skipBlanks();
            return at >= length;
        }

        boolean takeSign(char sign) {
            skipBlanks();
            if (at >= length || bytes[at] != sign) {
                return false;
            }
            taken = at;
            at++;
            return true;
        }

        boolean takeWord(String word) {
            skipBlanks();
            int size = word.length();
            if (at + size > length || isLetter(at + size)) {
                return false;
            }
            for (int i = 0; i < size; i++) {
                if (bytes[at + i] != word.charAt(i)) {
                    return false;
                }
            }
            taken = at;
            at += size;
            return true;
        }

        /** A number within bounds; NONE, and it is the first wrong thing, if none stands here. */
        int takeNumber(int least, int most) {
            skipBlanks();
            int value = 0;
            int digits = 0;
            while (digits <= 3 && isDigit(at + digits)) {
                value = 10 * value + bytes[at + digits] - '0';
                digits++;
            }
            if (digits == 0 || digits > 3 || value < least || value > most) {
                wrong = at;
                return NONE;
            }
            at += digits;
            return value;
        }

        boolean refuseNext() {
            skipBlanks();
            wrong = at;
            return false;
        }

        boolean refuseTaken() {
            wrong = taken;
            return false;
        }

        private void skipBlanks() {
            while (at < length && bytes[at] == ' ') {
                at++;
            }
        }

        private boolean isLetter(int place) {
            return place < length && bytes[place] >= 'a' && bytes[place] <= 'z';
        }

        private boolean isDigit(int place) {
            return place < length && bytes[place] >= '0' && bytes[place] <= '9';
        }
    }

    /** Reads a text of THE CITY into a draft, so that of a wrong text nothing stays. */
    private static final class CityReader {
        private static final int MOST_LINES = 14;

        static boolean read(Tape tape, City city) {
            if (tape.isEnd()) {
                return true;
            }
            for (int line = 0; line < MOST_LINES; line++) {
                if (!readLine(tape, city)) {
                    return false;
                }
                if (tape.isEnd()) {
                    return true;
                }
                if (!tape.takeSign(';')) {
                    return tape.refuseNext();
                }
            }
            return tape.refuseNext();
        }

        private static boolean readLine(Tape tape, City city) {
            if (tape.takeWord("size")) {
                return readSize(tape, city);
            }
            if (tape.takeWord("thick")) {
                return readPart(tape, city, city.thick, 1, 9);
            }
            if (tape.takeWord("heat")) {
                return readPart(tape, city, city.heat, 0, 60);
            }
            if (tape.takeWord("cold")) {
                return readCold(tape, city);
            }
            if (tape.takeWord("sand")) {
                return readPart(tape, city, city.sand, 0, 100);
            }
            if (tape.takeWord("owner")) {
                return readPart(tape, city, city.owner, 0, OWNERS - 1);
            }
            if (tape.takeWord("lamp")) {
                return readPart(tape, city, city.lamp, 0, 99);
            }
            if (tape.takeWord("cart")) {
                return city.carts < MOST_CARTS ? readCart(tape, city) : tape.refuseTaken();
            }
            return tape.refuseNext();
        }

        private static boolean readSize(Tape tape, City city) {
            int wide = tape.takeNumber(1, 6);
            if (wide == NONE) {
                return false;
            }
            int high = tape.takeNumber(1, 5);
            if (high == NONE) {
                return false;
            }
            city.layOut(wide, high);
            return true;
        }

        private static boolean readPart(Tape tape, City city, int[] row, int least, int most) {
            int pane = readPane(tape, city);
            if (pane == NONE) {
                return false;
            }
            int value = tape.takeNumber(least, most);
            if (value == NONE) {
                return false;
            }
            row[pane] = value;
            return true;
        }

        private static boolean readCold(Tape tape, City city) {
            int pane = readPane(tape, city);
            if (pane == NONE) {
                return false;
            }
            int cold = tape.takeNumber(0, 40);
            if (cold == NONE) {
                return false;
            }
            city.heat[pane] = -cold;
            return true;
        }

        private static boolean readCart(Tape tape, City city) {
            int weight = tape.takeNumber(1, 200);
            if (weight == NONE) {
                return false;
            }
            int pane = readPane(tape, city);
            if (pane == NONE) {
                return false;
            }
            int from = tape.takeNumber(0, HOURS - 1);
            if (from == NONE) {
                return false;
            }
            if (!tape.takeWord("to")) {
                return tape.refuseNext();
            }
            int to = tape.takeNumber(0, HOURS - 1);
            if (to == NONE) {
                return false;
            }
            int place = City.CART_ROW * city.carts;
            city.cartRows[place] = weight;
            city.cartRows[place + 1] = pane;
            city.cartRows[place + 2] = from;
            city.cartRows[place + 3] = to;
            city.cartRows[place + 4] = tape.takeWord("felt") ? 1 : 0;
            city.carts++;
            return true;
        }

        private static int readPane(Tape tape, City city) {
            int x = tape.takeNumber(0, city.wide - 1);
            if (x == NONE) {
                return NONE;
            }
            int y = tape.takeNumber(0, city.high - 1);
            return y == NONE ? NONE : city.wide * y + x;
        }
    }

    /** SHAME: each condition is kept with its signs behind what they join, so that a stack tells it. */
    private static final class Law {
        private static final int MOST_LINES = 12;
        private static final int MOST_DEEP = 6;
        private static final int HIDE = 0;
        private static final int SHOW = 1;
        private static final int FINE = 2;
        private static final int FACTS = 7;
        private static final int LIGHT = 4;
        /** Below FACT a code is a number itself; from FACT on one of the facts. */
        private static final int FACT = 1000;
        private static final int ADD = 2000;
        private static final int LESS = 2001;
        private static final int MORE = 2002;
        private static final int AND = 2003;
        private static final int OR = 2004;
        private static final int NOT = 2005;

        int lines = NONE;
        private final int[] kinds = new int[MOST_LINES];
        private final int[] fines = new int[MOST_LINES];
        private final int[] ends = new int[MOST_LINES];
        private final int[] codes = new int[MOST_BYTES];
        private int used = 0;
        private final int[] facts = new int[FACTS];
        /** An or and an and stand open at each of seven depths, and three sums at the deepest one. */
        private final int[] stack = new int[2 * MOST_DEEP + 8];

        void become(Law other) {
            lines = other.lines;
            used = other.used;
            System.arraycopy(other.kinds, 0, kinds, 0, MOST_LINES);
            System.arraycopy(other.fines, 0, fines, 0, MOST_LINES);
            System.arraycopy(other.ends, 0, ends, 0, MOST_LINES);
            System.arraycopy(other.codes, 0, codes, 0, MOST_BYTES);
        }

        boolean lets(City city, int pane, int hour) {
            gather(city, pane, hour);
            for (int line = 0; line < lines; line++) {
                if (kinds[line] != FINE && isTrue(line)) {
                    return kinds[line] == SHOW;
                }
            }
            return facts[LIGHT] > 20;
        }

        int fineFor(City city, int pane, int hour) {
            if (!lets(city, pane, hour)) {
                return 0;
            }
            int sum = 0;
            for (int line = 0; line < lines; line++) {
                if (kinds[line] == FINE && isTrue(line)) {
                    sum += fines[line];
                }
            }
            return sum;
        }

        private void gather(City city, int pane, int hour) {
            facts[0] = city.thick[pane];
            facts[1] = city.sand[pane];
            facts[2] = city.cracks[pane];
            facts[3] = hour;
            facts[LIGHT] = city.lightBelow(pane, hour);
            facts[5] = city.owner[pane];
            facts[6] = city.loadOn(pane, hour);
        }

        private boolean isTrue(int line) {
            int begin = line == 0 ? 0 : ends[line - 1];
            if (begin == ends[line]) {
                return true;
            }
            int top = 0;
            for (int i = begin; i < ends[line]; i++) {
                top = apply(codes[i], top);
            }
            return stack[0] != 0;
        }

        /** What one code does to the stack: how high it is then. */
        private int apply(int code, int top) {
            if (code < ADD) {
                if (top < stack.length) {
                    stack[top] = code < FACT ? code : facts[code - FACT];
                }
                return top + 1;
            }
            if (top > stack.length) {
                return top;
            }
            if (code == NOT) {
                if (top >= 1) {
                    stack[top - 1] = 1 - stack[top - 1];
                }
                return top;
            }
            if (top >= 2) {
                stack[top - 2] = join(code, stack[top - 2], stack[top - 1]);
            }
            return top - 1;
        }

        private static int join(int code, int a, int b) {
            switch (code) {
                case ADD: return a + b;
                case LESS: return a < b ? 1 : 0;
                case MORE: return a > b ? 1 : 0;
                case AND: return a & b;
                default: return a | b;
            }
        }

        boolean read(Tape tape) {
            lines = 0;
            used = 0;
            if (tape.isEnd()) {
                return true;
            }
            for (int line = 0; line < MOST_LINES; line++) {
                if (!readLine(tape, line)) {
                    return false;
                }
                lines++;
                if (tape.isEnd()) {
                    return true;
                }
                if (!tape.takeSign(';')) {
                    return tape.refuseNext();
                }
            }
            return tape.refuseNext();
        }

        private boolean readLine(Tape tape, int line) {
            fines[line] = 0;
            if (tape.takeWord("hide")) {
                kinds[line] = HIDE;
            } else if (tape.takeWord("show")) {
                kinds[line] = SHOW;
            } else if (tape.takeWord("fine")) {
                kinds[line] = FINE;
                fines[line] = tape.takeNumber(0, 999);
            } else {
                return tape.refuseNext();
            }
            if (fines[line] == NONE) {
                return false;
            }
            if (tape.takeWord("if") && !readCondition(tape, 0)) {
                return false;
            }
            ends[line] = used;
            return true;
        }

        /** What stands between two ors is joined by its ands first. */
        private boolean readCondition(Tape tape, int deep) {
            boolean behindOr = false;
            boolean behindAnd = false;
            for (int i = 0; i < MOST_BYTES; i++) {
                if (!readAtom(tape, deep)) {
                    return false;
                }
                if (behindAnd) {
                    keep(AND);
                }
                behindAnd = tape.takeWord("and");
                if (behindAnd) {
                    continue;
                }
                if (behindOr) {
                    keep(OR);
                }
                behindOr = tape.takeWord("or");
                if (!behindOr) {
                    return true;
                }
            }
            return true;
        }

        private boolean readAtom(Tape tape, int deep) {
            if (tape.takeWord("not")) {
                if (deep >= MOST_DEEP) {
                    return tape.refuseTaken();
                }
                return readAtom(tape, deep + 1) && keep(NOT);
            }
            if (tape.takeSign('(')) {
                if (deep >= MOST_DEEP) {
                    return tape.refuseTaken();
                }
                if (!readCondition(tape, deep + 1)) {
                    return false;
                }
                return tape.takeSign(')') || tape.refuseNext();
            }
            if (!readSum(tape)) {
                return false;
            }
            if (tape.takeSign('<')) {
                return readSum(tape) && keep(LESS);
            }
            if (tape.takeSign('>')) {
                return readSum(tape) && keep(MORE);
            }
            return tape.refuseNext();
        }

        private boolean readSum(Tape tape) {
            for (int parts = 0; parts < MOST_BYTES; parts++) {
                int code = NONE;
                for (int fact = 0; fact < FACTS && code == NONE; fact++) {
                    if (tape.takeWord(factName(fact))) {
                        code = FACT + fact;
                    }
                }
                if (code == NONE) {
                    code = tape.takeNumber(0, 999);
                }
                if (code == NONE) {
                    return false;
                }
                keep(code);
                if (parts > 0) {
                    keep(ADD);
                }
                if (!tape.takeSign('+')) {
                    return true;
                }
            }
            return true;
        }

        private static String factName(int fact) {
            switch (fact) {
                case 0: return "thick";
                case 1: return "sand";
                case 2: return "cracks";
                case 3: return "hour";
                case LIGHT: return "light";
                case 5: return "owner";
                default: return "load";
            }
        }

        /** Always true: each code comes from a byte of its own, so the row has room for all. */
        private boolean keep(int code) {
            if (used < codes.length) {
                codes[used] = code;
                used++;
            }
            return true;
        }
    }

    /** What a BLOW does, and which BLOWS do just something. */
    private static final class Crack {
        /** Above any FORCE. */
        private static final int FAR = 1000;

        /** With less than so much more FORCE the latest strike would go the same way. */
        private int slack = FAR;

        int strike(City city, int pane, int force) {
            slack = FAR;
            int left = force - city.bears(pane);
            if (left <= 0) {
                return 0;
            }
            int set = city.cracks[pane] < BROKEN ? 1 << pane : 0;
            int whole = city.all & ~city.withCracks(1) & ~set;
            int latest = pane;
            for (int step = 0; step < MOST_PANES; step++) {
                int next = nextPane(city, latest, whole, left);
                if (next == NONE) {
                    break;
                }
                set |= 1 << next;
                whole &= ~(1 << next);
                left -= 5 * city.thick[next];
                latest = next;
            }
            return set;
        }

        private int nextPane(City city, int latest, int whole, int left) {
            int best = NONE;
            int most = NONE;
            for (int side = 0; side < SIDES; side++) {
                int pane = city.beside(latest, side);
                if (pane == NONE || (whole >> pane & 1) == 0) {
                    continue;
                }
                int off = Math.abs(city.heat[pane] - city.heat[latest]);
                int spare = left - 5 * city.thick[pane];
                if (off < city.run) {
                    continue;
                }
                if (spare <= 0) {
                    slack = Math.min(slack, 1 - spare);
                } else if (off > most) {
                    most = off;
                    best = pane;
                }
            }
            return best;
        }

        int countBack(City city, int set, int most) {
            int sum = 0;
            for (int pane = 0; pane < city.panes; pane++) {
                int borne = Math.min(city.bears(pane), most);
                if (set == 0) {
                    sum += borne;
                }
                if (cannotGive(city, pane, set)) {
                    continue;
                }
                for (int force = borne + 1; force <= most; force += Math.max(slack, 1)) {
                    if (strike(city, pane, force) == set) {
                        sum += Math.min(slack, most - force + 1);
                    }
                }
            }
            return sum;
        }

        int firstBack(City city, int set, int most) {
            for (int pane = 0; pane < city.panes; pane++) {
                int borne = Math.min(city.bears(pane), most);
                if (set == 0 && borne > 0) {
                    return 1000 * pane + 1;
                }
                if (cannotGive(city, pane, set)) {
                    continue;
                }
                for (int force = borne + 1; force <= most; force += Math.max(slack, 1)) {
                    if (strike(city, pane, force) == set) {
                        return 1000 * pane + force;
                    }
                }
            }
            return NONE;
        }

        /** A pane that can crack itself is in each set that a FORCE above what it bears gives. */
        private static boolean cannotGive(City city, int pane, int set) {
            return city.cracks[pane] < BROKEN && (set >> pane & 1) == 0;
        }
    }

    /** PARADES between two panes: sets of panes that can be come to, hour by hour. */
    private static final class Walk {
        private int from = 0;
        private int to = 0;
        private int start = 0;
        private final int[] loads = new int[HOURS * MOST_PANES];
        /** What each pane bears as it is, and if it were of the greatest thickness; below 0: BROKEN. */
        private final int[] bears = new int[MOST_PANES];
        private final int[] bearsThick = new int[MOST_PANES];
        private final int[] open = new int[HOURS];
        private final int[] openThick = new int[HOURS];
        private final int[] leading = new int[MOST_HOURS + 1];

        void look(City city, int first, int last, int hour) {
            from = first;
            to = last;
            start = hour;
            Arrays.fill(loads, 0);
            for (int cart = 0; cart < city.carts; cart++) {
                addLoad(city, cart);
            }
            for (int pane = 0; pane < city.panes; pane++) {
                boolean broken = city.cracks[pane] >= BROKEN;
                bears[pane] = broken ? NONE : city.bears(pane);
                bearsThick[pane] = broken ? NONE : city.bearsIfThick(pane, THICKEST);
            }
        }

        private void addLoad(City city, int cart) {
            int pane = city.cartRows[City.CART_ROW * cart + 1];
            for (int hour = 0; hour < HOURS; hour++) {
                if (city.isThere(cart, hour)) {
                    loads[MOST_PANES * hour + pane] += city.pressOf(cart);
                }
            }
        }

        private void fillOpen(City city, int[] row, int[] borne, int weight) {
            for (int hour = 0; hour < HOURS; hour++) {
                int set = 0;
                for (int pane = 0; pane < city.panes; pane++) {
                    if (loads[MOST_PANES * hour + pane] + weight <= borne[pane]) {
                        set |= 1 << pane;
                    }
                }
                row[hour] = set;
            }
        }

        private static int hourBehind(int hour) {
            return hour == HOURS - 1 ? 0 : hour + 1;
        }

        int hoursWith(City city, int weight) {
            fillOpen(city, open, bears, weight);
            return hoursIfThick(city, 0);
        }

        /** The fewest hours, if the panes of a set were of the greatest thickness. */
        private int hoursIfThick(City city, int set) {
            int hour = start;
            int here = 1 << from & (open[hour] | openThick[hour] & set);
            for (int hours = 0; hours <= MOST_HOURS && here != 0; hours++) {
                if ((here >> to & 1) != 0) {
                    return hours;
                }
                hour = hourBehind(hour);
                here = (here | city.allBeside(here)) & (open[hour] | openThick[hour] & set);
            }
            return NONE;
        }

        /** Of the first way of so many hours the pane behind k of them; hoursWith has been asked ahead. */
        int paneBehind(City city, int k, int hours) {
            leading[hours] = 1 << to;
            for (int left = hours - 1; left >= 0; left--) {
                int behind = leading[left + 1];
                leading[left] = (behind | city.allBeside(behind)) & open[(start + left) % HOURS];
            }
            int pane = from;
            for (int step = 1; step <= k && step <= hours; step++) {
                pane = firstStep(city, pane, leading[step]);
            }
            return pane;
        }

        private static int firstStep(City city, int pane, int set) {
            if ((set >> pane & 1) != 0) {
                return pane;
            }
            for (int side = 0; side < SIDES; side++) {
                int next = city.beside(pane, side);
                if (next != NONE && (set >> next & 1) != 0) {
                    return next;
                }
            }
            return pane;
        }

        /** By halves: what a lesser weight cannot do a greater one cannot do either. */
        int heaviestWeight(City city) {
            int weight = NONE;
            for (int more = 512; more > 0; more /= 2) {
                if (weight + more <= MOST_WEIGHT && hoursWith(city, weight + more) != NONE) {
                    weight += more;
                }
            }
            return weight;
        }

        int strengthened(City city, int weight) {
            fillOpen(city, open, bears, weight);
            fillOpen(city, openThick, bearsThick, weight);
            if (hoursIfThick(city, 0) != NONE) {
                return 0;
            }
            if (hoursIfThick(city, city.all) == NONE) {
                return NONE;
            }
            for (int pane = 0; pane < city.panes; pane++) {
                if (hoursIfThick(city, 1 << pane) != NONE) {
                    return 1 << pane;
                }
            }
            return strengthenedPair(city);
        }

        private int strengthenedPair(City city) {
            for (int high = 1; high < city.panes; high++) {
                for (int low = 0; low < high; low++) {
                    int set = 1 << high | 1 << low;
                    if (hoursIfThick(city, set) != NONE) {
                        return set;
                    }
                }
            }
            return NONE;
        }
    }

    /** SALES, told by one number for each set of seers: the pay first, then which way is the first one. */
    private static final class Market {
        private static final int SETS = 64;
        private static final int DIGIT = 31;
        /** Above all ways: the places of a number with a digit for each seer, 0 for none, else a pane and 1. */
        private static final long WAYS = 887503681L;
        private static final long[] PLACES = {28629151L, 923521L, 29791L, 961L, 31L, 1L};

        /** For each set of seers that all get a pane: WAYS times the pay, less the way; NONE: there is none. */
        private final long[] best = new long[SETS];
        private int seers = 0;

        void sell(City city, Law law, int hour) {
            seers = city.seers;
            Arrays.fill(best, NONE);
            best[0] = 0;
            for (int pane = 0; pane < city.panes; pane++) {
                if (isWanted(city, pane) && law.lets(city, pane, hour)) {
                    add(city, pane);
                }
            }
        }

        private boolean isWanted(City city, int pane) {
            for (int seer = 0; seer < seers; seer++) {
                if (city.offers[MOST_PANES * seer + pane] > 0) {
                    return true;
                }
            }
            return false;
        }

        /** From the greatest set down, so that no set counts with this pane twice. */
        private void add(City city, int pane) {
            for (int set = (1 << seers) - 1; set > 0; set--) {
                for (int seer = 0; seer < seers; seer++) {
                    int pays = city.offers[MOST_PANES * seer + pane];
                    if (pays == 0 || (set >> seer & 1) == 0) {
                        continue;
                    }
                    long before = best[set & ~(1 << seer)];
                    if (before >= 0) {
                        best[set] = Math.max(best[set], before + pays * WAYS - (pane + 1) * PLACES[seer]);
                    }
                }
            }
        }

        /** The best of all sets that have none of the seers of a set. */
        private long bestWithout(int set) {
            long most = 0;
            for (int other = 0; other < 1 << seers; other++) {
                if ((other & set) == 0) {
                    most = Math.max(most, best[other]);
                }
            }
            return most;
        }

        private static long payOf(long worth) {
            return (worth + WAYS - 1) / WAYS;
        }

        int paidByAll() {
            return (int) payOf(bestWithout(0));
        }

        int paidWithout(int seer) {
            return (int) payOf(bestWithout(1 << seer));
        }

        int soldTo(int seer) {
            long worth = bestWithout(0);
            long way = payOf(worth) * WAYS - worth;
            return (int) (way / PLACES[seer] % DIGIT) - 1;
        }
    }

    /** New lamps: who pays for one, and where the fewest must be. */
    private static final class Lamps {
        static int costOf(City city, int pane, int owner, int cost) {
            int whole = 50 + 25 * Integer.bitCount(city.allBeside(1 << pane));
            int left = cost;
            int ahead = 0;
            for (int other = 0; other < OWNERS; other++) {
                int gets = given(city, pane, other);
                left -= cost * gets / whole;
                if (gets > 0 && other < owner) {
                    ahead++;
                }
            }
            int gets = given(city, pane, owner);
            if (gets == 0) {
                return 0;
            }
            return cost * gets / whole + (ahead < left ? 1 : 0);
        }

        private static int given(City city, int pane, int owner) {
            int sum = city.owner[pane] == owner ? 50 : 0;
            for (int side = 0; side < SIDES; side++) {
                int other = city.beside(pane, side);
                if (other != NONE && city.owner[other] == owner) {
                    sum += 25;
                }
            }
            return sum;
        }

        static int fewest(City city, int set, int hour) {
            int dim = 0;
            int dark = 0;
            for (int pane = 0; pane < city.panes; pane++) {
                int light = city.lightBelow(pane, hour);
                if ((set >> pane & 1) == 0 || light >= 50) {
                    continue;
                }
                if (light >= 25) {
                    dim |= 1 << pane;
                } else {
                    dark |= 1 << pane;
                }
            }
            if ((dim | dark) == 0) {
                return 0;
            }
            return fewestFor(city, dim, dark);
        }

        /** A dim pane wants one lamp beside it, a dark one two; either has enough of one below itself. */
        private static int fewestFor(City city, int dim, int dark) {
            for (int pane = 0; pane < city.panes; pane++) {
                int one = city.allBeside(1 << pane);
                if (isEnough(1 << pane, one, 0, dim, dark)) {
                    return 1 << pane;
                }
            }
            for (int high = 1; high < city.panes; high++) {
                for (int low = 0; low < high; low++) {
                    int a = city.allBeside(1 << high);
                    int b = city.allBeside(1 << low);
                    if (isEnough(1 << high | 1 << low, a | b, a & b, dim, dark)) {
                        return 1 << high | 1 << low;
                    }
                }
            }
            for (int high = 2; high < city.panes; high++) {
                int set = threeUpTo(city, high, dim, dark);
                if (set != NONE) {
                    return set;
                }
            }
            return NONE;
        }

        private static int threeUpTo(City city, int high, int dim, int dark) {
            int a = city.allBeside(1 << high);
            for (int middle = 1; middle < high; middle++) {
                int b = city.allBeside(1 << middle);
                for (int low = 0; low < middle; low++) {
                    int c = city.allBeside(1 << low);
                    int set = 1 << high | 1 << middle | 1 << low;
                    if (isEnough(set, a | b | c, a & b | a & c | b & c, dim, dark)) {
                        return set;
                    }
                }
            }
            return NONE;
        }

        private static boolean isEnough(int below, int besideOne, int besideTwo, int dim, int dark) {
            return (dim & ~below & ~besideOne | dark & ~below & ~besideTwo) == 0;
        }
    }

    /** A night of frost, and the odds of one. */
    private static final class Frost {
        private static final int BILLION = 1000000000;

        static int freeze(City city, int firstSeed, int n) {
            if (n < 1) {
                return 0;
            }
            int seed = firstSeed;
            int sum = 0;
            for (int pane = 0; pane < city.panes; pane++) {
                seed = follow(seed);
                city.heat[pane] = Math.max(city.heat[pane] - drawn(seed) % n, -40);
                if (!isAtRisk(city, pane)) {
                    continue;
                }
                seed = follow(seed);
                if (drawn(seed) % 100 < chance(city, pane)) {
                    city.cracks[pane]++;
                    sum++;
                }
            }
            return sum;
        }

        private static int follow(int seed) {
            return 1103515245 * seed + 12345;
        }

        private static int drawn(int seed) {
            return seed >> 16 & 32767;
        }

        private static boolean isAtRisk(City city, int pane) {
            return city.heat[pane] < 0 && city.cracks[pane] < BROKEN;
        }

        private static int chance(City city, int pane) {
            int risk = 3 * -city.heat[pane] - city.thick[pane];
            return Math.max(0, Math.min(risk, 100));
        }

        static int allHold(City city) {
            long odds = BILLION;
            for (int pane = 0; pane < city.panes; pane++) {
                if (isAtRisk(city, pane)) {
                    odds = odds * (100 - chance(city, pane)) / 100;
                }
            }
            return (int) odds;
        }

        static void spreadOver(City city, long[] row) {
            Arrays.fill(row, 0);
            row[0] = BILLION;
            for (int pane = 0; pane < city.panes; pane++) {
                if (isAtRisk(city, pane)) {
                    addPane(row, chance(city, pane));
                }
            }
        }

        /** From the top down, so that what there was of one less is still as it was. */
        private static void addPane(long[] row, int chance) {
            for (int k = row.length - 1; k > 0; k--) {
                row[k] = row[k] * (100 - chance) / 100 + row[k - 1] * chance / 100;
            }
            row[0] = row[0] * (100 - chance) / 100;
        }
    }

    /** Which panes may be closed at once, so that the city is still whole. */
    private static final class Mending {
        private static final int MOST_AT_ONCE = 10;

        /** Whether a way goes from the first pane to the last by panes of a set. */
        static boolean isWay(City city, int free) {
            int last = 1 << city.panes - 1;
            int reached = 1 & free;
            for (int step = 0; step < MOST_PANES; step++) {
                int more = (reached | city.allBeside(reached)) & free;
                if ((more & last) != 0) {
                    return true;
                }
                if (more == reached) {
                    return false;
                }
                reached = more;
            }
            return false;
        }

        static int greatest(City city, int cracked, int broken) {
            int free = city.all & ~broken;
            if (!isWay(city, free)) {
                return 0;
            }
            // the first and the last pane are never closed, but count among the first ten
            int ends = 1 | 1 << city.panes - 1;
            int choice = firstOf(cracked, MOST_AT_ONCE) & ~ends;
            int sets = 1 << Integer.bitCount(choice);
            int best = 0;
            int most = 0;
            int set = 0;
            for (int i = 1; i < sets; i++) {
                // the next greater one of all sets within the choice
                set = set - choice & choice;
                int size = Integer.bitCount(set);
                if (size > most && isWay(city, free & ~set)) {
                    best = set;
                    most = size;
                }
            }
            return best;
        }

        private static int firstOf(int set, int most) {
            int rest = set;
            for (int i = 0; i < most; i++) {
                rest &= rest - 1;
            }
            return set & ~rest;
        }

        static int countRounds(City city) {
            int cracked = city.withCracks(1);
            int broken = city.withCracks(BROKEN);
            for (int rounds = 0; rounds < MOST_PANES; rounds++) {
                int set = greatest(city, cracked, broken);
                if (set == 0) {
                    return rounds;
                }
                cracked &= ~set;
                broken &= ~set;
            }
            return MOST_PANES;
        }
    }

    /** The latest acts: what they could change of all panes, as it was ahead of each. */
    private static final class Past {
        private static final int MOST_ACTS = 12;

        int acts = 0;
        private int latest = 0;
        private final int[] heat = new int[MOST_ACTS * MOST_PANES];
        private final int[] sand = new int[MOST_ACTS * MOST_PANES];
        private final int[] cracks = new int[MOST_ACTS * MOST_PANES];

        void forget() {
            acts = 0;
        }

        void remember(City city) {
            latest = (latest + 1) % MOST_ACTS;
            acts = Math.min(acts + 1, MOST_ACTS);
            int place = MOST_PANES * latest;
            System.arraycopy(city.heat, 0, heat, place, MOST_PANES);
            System.arraycopy(city.sand, 0, sand, place, MOST_PANES);
            System.arraycopy(city.cracks, 0, cracks, place, MOST_PANES);
        }

        boolean giveBack(City city) {
            if (acts == 0) {
                return false;
            }
            int place = MOST_PANES * latest;
            System.arraycopy(heat, place, city.heat, 0, MOST_PANES);
            System.arraycopy(sand, place, city.sand, 0, MOST_PANES);
            System.arraycopy(cracks, place, city.cracks, 0, MOST_PANES);
            latest = (latest + MOST_ACTS - 1) % MOST_ACTS;
            acts--;
            return true;
        }
    }
}
