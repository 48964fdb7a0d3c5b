import java.util.Random;

/** All promises: long runs of calls, drawn by numbers, on a GlassCity and on a Model: both must answer the same. */
public final class ModelTest {
    private final Random random;
    private final GlassCity x = new GlassCity();
    private final Model m = new Model();
    private final StringBuilder told = new StringBuilder();
    private final boolean wild;
    private boolean wrong = false;

    private ModelTest(long seed, boolean wild) {
        random = new Random(seed);
        this.wild = wild;
    }

    public static void main(String[] args) {
        int runs = args.length > 0 ? Integer.parseInt(args[0]) : 1500;
        long first = args.length > 1 ? Long.parseLong(args[1]) : 1;
        for (long seed = first; seed < first + runs; seed++) {
            ModelTest test = new ModelTest(seed, seed % 4 == 0);
            int calls = 20 + test.random.nextInt(150);
            for (int i = 0; i < calls && !test.wrong; i++) {
                test.call();
            }
            Kit.same("run " + seed + (test.wrong ? ":\n" + test.told : ""), false, test.wrong);
        }
        Kit.finish("ModelTest");
    }

    private void both(String what, java.util.concurrent.Callable<?> ofX, java.util.concurrent.Callable<?> ofM) {
        String got = Kit.answer(ofX);
        String due = Kit.answer(ofM);
        told.append(what).append(" -> ").append(got).append('\n');
        if (!got.equals(due)) {
            told.append("due is ").append(due).append('\n');
            wrong = true;
        }
    }

    // ---- arguments: mostly right ones

    private int among(int least, int most) {
        int odd = random.nextInt(wild ? 12 : 60);
        switch (odd) {
            case 0: return least - 1;
            case 1: return most + 1;
            case 2: return random.nextInt();
            case 3: return random.nextBoolean() ? Integer.MIN_VALUE : Integer.MAX_VALUE;
            case 4: return least;
            case 5: return most;
            default: return least + random.nextInt(most - least + 1);
        }
    }

    private int pane() {
        return among(0, m.panes() - 1);
    }

    private int hour() {
        return among(0, 23);
    }

    private int set() {
        int set = random.nextInt();
        if (random.nextInt(3) > 0) {
            set &= random.nextInt() & random.nextInt();
        }
        return random.nextInt(8) > 0 ? set & (1 << m.panes()) - 1 : set;
    }

    // ---- texts

    private String pick(String... all) {
        return all[random.nextInt(all.length)];
    }

    private String blank() {
        return random.nextInt(6) == 0 ? pick("", " ", "   ") : " ";
    }

    private int number(int least, int most) {
        return random.nextInt(wild ? 15 : 200) == 0 ? most + 1 + random.nextInt(3) : least + random.nextInt(most - least + 1);
    }

    private String place(int wide, int high) {
        return blank() + number(0, wide - 1) + " " + number(0, high - 1) + " ";
    }

    private String cityText() {
        StringBuilder text = new StringBuilder();
        int wide = m.wide();
        int high = m.high();
        int lines = random.nextInt(wild ? 17 : 14);
        for (int i = 0; i < lines; i++) {
            if (i > 0) {
                text.append(random.nextInt(40) == 0 ? "" : ";");
            }
            int kind = random.nextInt(12);
            if (kind == 0 && random.nextInt(3) == 0 || i == 0 && random.nextInt(4) == 0) {
                wide = 1 + random.nextInt(6);
                high = 1 + random.nextInt(5);
                text.append("size ").append(wide).append(' ').append(high);
            } else if (kind <= 3) {
                text.append("thick").append(place(wide, high)).append(number(1, 9));
            } else if (kind <= 5) {
                text.append("heat").append(place(wide, high)).append(number(0, 60));
            } else if (kind <= 7) {
                text.append("cold").append(place(wide, high)).append(number(0, 40));
            } else if (kind == 8) {
                text.append(pick("sand", "lamp")).append(place(wide, high)).append(number(0, 99));
            } else if (kind == 9) {
                text.append("owner").append(place(wide, high)).append(number(0, 7));
            } else {
                text.append("cart ").append(number(1, random.nextBoolean() ? 200 : 60)).append(place(wide, high));
                text.append(number(0, 23)).append(blank()).append("to").append(blank()).append(number(0, 23));
                text.append(random.nextInt(3) == 0 ? " felt" : "");
            }
            text.append(random.nextInt(20) == 0 ? "  " : "");
        }
        return spoilt(text);
    }

    private String shameText() {
        StringBuilder text = new StringBuilder();
        int lines = random.nextInt(wild ? 14 : 6);
        for (int i = 0; i < lines; i++) {
            text.append(i > 0 ? ";" : "");
            text.append(pick("hide", "show", "fine " + random.nextInt(1000), "fine " + random.nextInt(9)));
            if (random.nextInt(5) > 0) {
                text.append(" if ");
                any(text, 0);
            }
        }
        return spoilt(text);
    }

    private void any(StringBuilder text, int deep) {
        all(text, deep);
        while (random.nextInt(4) == 0) {
            text.append(" or ");
            all(text, deep);
        }
    }

    private void all(StringBuilder text, int deep) {
        atom(text, deep);
        while (random.nextInt(4) == 0) {
            text.append(" and ");
            atom(text, deep);
        }
    }

    private void atom(StringBuilder text, int deep) {
        int kind = random.nextInt(wild ? 3 : 5);
        if (kind == 0 && deep < 8) {
            text.append("not ");
            atom(text, deep + 1);
        } else if (kind == 1 && deep < 8) {
            text.append("(");
            any(text, deep + 1);
            text.append(")");
        } else {
            sum(text);
            text.append(blank()).append(pick("<", ">")).append(blank());
            sum(text);
        }
    }

    private void sum(StringBuilder text) {
        text.append(part());
        while (random.nextInt(5) == 0) {
            text.append("+").append(part());
        }
    }

    private String part() {
        return pick("thick", "sand", "cracks", "hour", "light", "owner", "load", "" + random.nextInt(10),
                "" + random.nextInt(100), "" + random.nextInt(1000));
    }

    /** Now and then a byte is another one, or is gone, or comes twice. */
    private String spoilt(StringBuilder text) {
        int faults = random.nextInt(wild ? 3 : 10) == 0 ? 1 + random.nextInt(2) : 0;
        for (int i = 0; i < faults && text.length() > 0; i++) {
            int at = random.nextInt(text.length());
            String signs = " ;()<>+0123456789abcdefghiklmnorstuwz" + (char) 0 + (char) 200 + "A-=";
            switch (random.nextInt(4)) {
                case 0 -> text.setCharAt(at, signs.charAt(random.nextInt(signs.length())));
                case 1 -> text.deleteCharAt(at);
                case 2 -> text.insert(at, text.charAt(at));
                default -> text.setLength(at);
            }
        }
        text.setLength(Math.min(400, text.length()));
        return text.toString();
    }

    private void text(String text) {
        told.append("text ").append(text).append('\n');
        both("end(0)", () -> x.end(0), () -> m.end(0));
        for (int i = 0; i < text.length(); i += 20) {
            int[] n = new int[5];
            for (int j = 0; j < 20; j++) {
                n[j / 4] = n[j / 4] << 8 | (i + j < text.length() ? text.charAt(i + j) : 0);
            }
            both("feed", () -> x.feed(n[0], n[1], n[2], n[3], n[4]), () -> m.feed(n));
        }
        both("end", () -> x.end(text.length()), () -> m.end(text.length()));
    }

    // ---- calls

    private void call() {
        int kind = random.nextInt(100);
        if (kind < 5) {
            text(cityText());
            both("city()", x::city, m::city);
            both("fault()", x::fault, m::fault);
        } else if (kind < 10) {
            text(shameText());
            both("shame()", x::shame, m::shame);
            both("fault()", x::fault, m::fault);
        } else if (kind < 35) {
            change(random.nextInt(12));
        } else if (kind < 60) {
            look(random.nextInt(14));
        } else if (kind < 97) {
            search(random.nextInt(15));
        } else {
            tapeAlone();
        }
        sumUp();
    }

    /** All that can be seen cheaply, so that a wrong change is told where it happens. */
    private void sumUp() {
        for (int what = 0; what < 10; what++) {
            int w = what;
            both("count(" + w + ")", () -> x.count(w), () -> m.count(w));
        }
        for (int pane = 0; pane < m.panes() && !wrong; pane++) {
            for (int what = 0; what < 7; what++) {
                int p = pane;
                int w = what;
                if (x.pane(p, w) != m.pane(p, w)) {
                    both("pane(" + p + ", " + w + ")", () -> x.pane(p, w), () -> m.pane(p, w));
                }
            }
        }
    }

    private void tapeAlone() {
        int n = random.nextInt(40) - 5;
        both("end(" + n + ")", () -> x.end(n), () -> m.end(n));
        for (int i = random.nextInt(30); i > 0; i--) {
            int a = random.nextInt();
            both("feed", () -> x.feed(a, 1, 2, 3, a), () -> m.feed(a, 1, 2, 3, a));
        }
        int k = random.nextInt(450);
        both("end(" + k + ")", () -> x.end(k), () -> m.end(k));
    }

    private void change(int kind) {
        int pane = pane();
        switch (kind) {
            case 0 -> {
                int sand = among(0, 100);
                both("strew(" + pane + ", " + sand + ")", () -> x.strew(pane, sand), () -> m.strew(pane, sand));
            }
            case 1 -> {
                int n = random.nextBoolean() ? random.nextInt(20) : among(0, 100);
                both("runs(" + n + ")", () -> x.runs(n), () -> m.runs(n));
            }
            case 2 -> both("seer()", x::seer, m::seer);
            case 3, 4 -> {
                int seer = among(0, Math.max(0, m.count(5) - 1));
                int much = random.nextBoolean() ? random.nextInt(5) : among(0, 99);
                both("offer(" + seer + ", " + pane + ", " + much + ")", () -> x.offer(seer, pane, much),
                        () -> m.offer(seer, pane, much));
            }
            case 5, 6, 7 -> {
                int force = random.nextBoolean() ? 1 + random.nextInt(300) : among(1, 999);
                both("blow(" + pane + ", " + force + ")", () -> x.blow(pane, force), () -> m.blow(pane, force));
            }
            case 8 -> {
                int seed = random.nextInt();
                int n = random.nextBoolean() ? 1 + random.nextInt(12) : among(1, 60);
                both("frost(" + seed + ", " + n + ")", () -> x.frost(seed, n), () -> m.frost(seed, n));
            }
            case 9 -> both("mend()", x::mend, m::mend);
            case 10 -> both("undo()", x::undo, m::undo);
            default -> {
                if (random.nextInt(3) > 0) {
                    both("back()", x::back, m::back);
                } else {
                    x.image();
                    m.image();
                }
            }
        }
    }

    private void look(int kind) {
        int pane = pane();
        int hour = hour();
        switch (kind) {
            case 0 -> {
                int what = among(0, 6);
                both("pane(" + pane + ", " + what + ")", () -> x.pane(pane, what), () -> m.pane(pane, what));
            }
            case 1 -> {
                int cart = among(0, Math.max(0, m.count(2) - 1));
                int what = among(0, 4);
                both("cart(" + cart + ", " + what + ")", () -> x.cart(cart, what), () -> m.cart(cart, what));
            }
            case 2 -> both("load(" + pane + ", " + hour + ")", () -> x.load(pane, hour), () -> m.load(pane, hour));
            case 3 -> {
                int more = among(0, 999) / (random.nextBoolean() ? 1 : 8);
                both("holds(" + pane + ", " + hour + ", " + more + ")", () -> x.holds(pane, hour, more),
                        () -> m.holds(pane, hour, more));
            }
            case 4 -> both("breaks(" + hour + ")", () -> x.breaks(hour), () -> m.breaks(hour));
            case 5 -> {
                int what = among(0, 2);
                both("light(" + pane + ", " + hour + ", " + what + ")", () -> x.light(pane, hour, what),
                        () -> m.light(pane, hour, what));
            }
            case 6 -> {
                int owner = among(0, 7);
                int price = among(0, 999);
                both("bill(" + owner + ", " + hour + ", " + price + ")", () -> x.bill(owner, hour, price),
                        () -> m.bill(owner, hour, price));
            }
            case 7, 8 -> both("seen(" + pane + ", " + hour + ")", () -> x.seen(pane, hour), () -> m.seen(pane, hour));
            case 9, 10 -> both("fined(" + pane + ", " + hour + ")", () -> x.fined(pane, hour), () -> m.fined(pane, hour));
            case 11 -> {
                int owner = among(0, 7);
                int cost = among(0, 9999);
                both("share(" + pane + ", " + owner + ", " + cost + ")", () -> x.share(pane, owner, cost),
                        () -> m.share(pane, owner, cost));
            }
            case 12 -> both("weakest(" + hour + ")", () -> x.weakest(hour), () -> m.weakest(hour));
            default -> {
                int what = among(0, 9);
                both("count(" + what + ")", () -> x.count(what), () -> m.count(what));
            }
        }
    }

    private void search(int kind) {
        int pane = pane();
        int to = pane();
        int hour = hour();
        int weight = random.nextInt(4) > 0 ? random.nextInt(200) : among(0, 999);
        switch (kind) {
            case 0 -> {
                int seer = among(-1, Math.max(0, m.count(5) - 1));
                both("sale(" + hour + ", " + seer + ")", () -> x.sale(hour, seer), () -> m.sale(hour, seer));
            }
            case 1 -> {
                int seer = among(0, Math.max(0, m.count(5) - 1));
                both("lost(" + hour + ", " + seer + ")", () -> x.lost(hour, seer), () -> m.lost(hour, seer));
            }
            case 2 -> both("strengthen(" + pane + ", " + to + ", " + hour + ", " + weight + ")",
                    () -> x.strengthen(pane, to, hour, weight), () -> m.strengthen(pane, to, hour, weight));
            case 3 -> {
                int k = among(0, m.panes());
                both("spread(" + k + ")", () -> x.spread(k), () -> m.spread(k));
            }
            case 4, 5 -> {
                int force = random.nextBoolean() ? 1 + random.nextInt(300) : among(1, 999);
                both("would(" + pane + ", " + force + ")", () -> x.would(pane, force), () -> m.would(pane, force));
            }
            case 6 -> {
                int most = among(1, 300);
                boolean first = random.nextBoolean();
                int wanted = random.nextInt(4) > 0 && pane >= 0 && pane < m.panes() ? m.would(pane, 1 + random.nextInt(300)) : set();
                both("trace(" + wanted + ", " + most + ", " + first + ")", () -> x.trace(wanted, most, first),
                        () -> m.trace(wanted, most, first));
            }
            case 7, 8 -> {
                int k = among(-1, 8);
                both("parade(" + pane + ", " + to + ", " + hour + ", " + weight + ", " + k + ")",
                        () -> x.parade(pane, to, hour, weight, k), () -> m.parade(pane, to, hour, weight, k));
            }
            case 9 -> both("heaviest(" + pane + ", " + to + ", " + hour + ")", () -> x.heaviest(pane, to, hour),
                    () -> m.heaviest(pane, to, hour));
            case 10 -> both("odds()", x::odds, m::odds);
            case 11 -> {
                int closed = set();
                both("may(" + closed + ")", () -> x.may(closed), () -> m.may(closed));
            }
            case 12 -> both("round()", x::round, m::round);
            case 13 -> both("rounds()", x::rounds, m::rounds);
            default -> {
                int lit = set();
                both("lamps(" + lit + ", " + hour + ")", () -> x.lamps(lit, hour), () -> m.lamps(lit, hour));
            }
        }
    }
}
