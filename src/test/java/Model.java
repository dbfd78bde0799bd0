import java.math.BigInteger;
import java.util.ArrayDeque;
import java.util.ArrayList;
import java.util.Arrays;
import java.util.Comparator;
import java.util.HashMap;
import java.util.List;
import java.util.Map;
import java.util.TreeMap;

/**
 * The document said a second time, in another form and with the whole Java library, so that the class can
 * be held against it. Slow, and free with memory.
 */
final class Model {
    static final int NONE = -1, MISSING = -2, BEYOND = -3, BELOW = -4, KIND = -5, COPY = -6, NO = -7, FULL = -8;

    static final class Man {
        long coin, lost;
        int pace, down = NONE;
        int[] hold = new int[5], ask = new int[5];
        Man twin() {
            Man m = new Man();
            m.coin = coin; m.lost = lost; m.pace = pace; m.down = down;
            m.hold = hold.clone(); m.ask = ask.clone();
            return m;
        }
    }

    static final class Bargain {
        int number, seller, buyer, stock, shares, price, day, account, state, sMark = NONE, bMark = NONE, putOff;
        Bargain twin() {
            Bargain b = new Bargain();
            b.number = number; b.seller = seller; b.buyer = buyer; b.stock = stock; b.shares = shares;
            b.price = price; b.day = day; b.account = account; b.state = state; b.sMark = sMark;
            b.bMark = bMark; b.putOff = putOff;
            return b;
        }
        boolean living() { return state < 2; }
        boolean of(int man) { return seller == man || buyer == man; }
    }

    record Rule(String key, int from, int to, List<String> value, List<String> cond) { }

    static final class State {
        int day, stocks;
        int[] made = new int[5];
        List<Man> men = new ArrayList<>();
        TreeMap<Integer, Bargain> bargains = new TreeMap<>();
        List<int[]> options = new ArrayList<>();
        List<int[]> dividends = new ArrayList<>();
        List<Rule> rules = new ArrayList<>();
        Map<Integer, Long> extra = new HashMap<>();
        List<int[]> passes = null, deliveries = null;
        long[][] settled = null;

        State twin() {
            State s = new State();
            s.day = day; s.stocks = stocks; s.made = made.clone();
            for (Man m : men) s.men.add(m.twin());
            for (Bargain b : bargains.values()) s.bargains.put(b.number, b.twin());
            for (int[] o : options) s.options.add(o.clone());
            for (int[] d : dividends) s.dividends.add(d.clone());
            s.rules.addAll(rules);
            s.extra.putAll(extra);
            s.passes = passes == null ? null : new ArrayList<>(passes);
            s.deliveries = deliveries == null ? null : new ArrayList<>(deliveries);
            s.settled = settled;
            return s;
        }
    }

    State s = new State();
    State kept = null;
    List<Integer> tape = new ArrayList<>();
    List<Integer> row = null;
    Map<Integer, Integer> refusals = new HashMap<>();

    long call(String name, int[] a) {
        switch (name) {
            case "man": return man(a[0], a[1]);
            case "stock": return s.stocks == 5 ? no(FULL) : s.stocks++;
            case "hold": return hold(a[0], a[1], a[2]);
            case "lend": return lend(a[0], a[1]);
            case "asks": return asks(a[0], a[1], a[2]);
            case "look": return look(a[0], a[1]);
            case "coin": return coin(a[0], a[1]);
            case "has": return has(a[0], a[1], a[2]);
            case "made": return st(a[0]) ? s.made[a[0]] : no(BEYOND);
            case "bargain": return bargain(a[0], a[1], a[2], a[3]);
            case "mark": return mark(a[0], a[1]);
            case "clear": return clear(a[0]);
            case "of": return of(a[0], a[1]);
            case "knew": return knew(a[0], a[1], a[2], a[3]);
            case "putOff": return putOff(a[0], a[1], a[2]);
            case "option": return option(a[0], a[1], a[2], a[3]);
            case "declare": return declare(a[0]);
            case "optionOf": return table(s.options, a[0], a[1], 7, 20);
            case "dividend": return dividend(a[0], a[1], a[2]);
            case "feed": return feed(a[0], a[1]);
            case "wipe": { int n = tape.size(); tape.clear(); return n; }
            case "rule": return rule(a[0], a[1]);
            case "says": return says(a[0], a[1]);
            case "why": return why(a[0], a[1]);
            case "run": return run(a[0]);
            case "pass": return s.passes == null ? no(MISSING) : table(s.passes, a[0], a[1], 7, 300);
            case "delivery": return s.deliveries == null ? no(MISSING) : table(s.deliveries, a[0], a[1], 6, 200);
            case "settled": return settled(a[0], a[1]);
            case "least": return least(a[0], a[1]);
            case "judge": return judge(a[0], a[1]);
            case "corner": return corner(a[0], a[1], a[2]);
            case "squeeze": return squeeze(a[0], a[1]);
            case "rolling": return rolling(a[0], a[1]);
            case "clearing": return clearing(a[0]);
            case "count": return count(a[0]);
            case "image": kept = s.twin(); return s.day;
            case "back": if (kept == null) return no(MISSING); s = kept.twin(); return s.day;
            case "lay": return lay(a[0]);
            case "set": return set(a[0], a[1]);
            case "tear": { int was = row == null ? 0 : 1; row = null; return was; }
            case "row": return row == null ? zero(MISSING) : a[0] < 0 || a[0] >= row.size() ? zero(BEYOND) : row.get(a[0]);
            case "copy": return copy(a[0], a[1], a[2]);
            case "status": return a[0] > -2 || a[0] < -8 ? no(NO) : refusals.getOrDefault(a[0], 0);
            default: throw new IllegalArgumentException(name);
        }
    }

    int no(int by) { refusals.merge(by, 1, Integer::sum); return by; }
    int zero(int by) { no(by); return 0; }
    boolean mn(int m) { return m >= 0 && m < s.men.size(); }
    boolean st(int t) { return t >= 0 && t < s.stocks; }
    boolean two(int men) { return men >= 0 && mn(men / 100) && mn(men % 100); }
    boolean deal(int men) { return men / 100 != men % 100 && up(men / 100) && up(men % 100); }
    boolean up(int m) { return s.men.get(m).down == NONE; }

    int table(List<int[]> rows, int i, int what, int width, int most) {
        if (i < 0 || i >= Math.min(rows.size(), most)) return no(BEYOND);
        if (what < 0 || what >= width) return no(NO);
        return rows.get(i)[what];
    }

    int man(int coin, int pace) {
        if (coin < 0 || coin > 100000000 || pace < 0 || pace > 99) return no(NO);
        if (s.men.size() == 12) return no(FULL);
        Man m = new Man();
        m.coin = coin;
        m.pace = pace;
        s.men.add(m);
        return s.men.size() - 1;
    }

    int hold(int m, int t, int n) {
        if (!mn(m) || !st(t)) return no(BEYOND);
        if (n < 0 || n > 9999 || !up(m)) return no(NO);
        return s.men.get(m).hold[t] += n;
    }

    int lend(int m, int c) {
        if (!mn(m)) return no(BEYOND);
        if (c < 0 || c > 100000000 || !up(m)) return no(NO);
        s.men.get(m).coin += c;
        return 1;
    }

    int asks(int m, int t, int p) {
        if (!mn(m) || !st(t)) return no(BEYOND);
        if (p < 0 || p > 9999) return no(NO);
        int was = s.men.get(m).ask[t];
        s.men.get(m).ask[t] = p;
        return was;
    }

    int look(int m, int what) {
        if (!mn(m)) return no(BEYOND);
        if (what < 0 || what > 3) return no(NO);
        Man man = s.men.get(m);
        if (what == 0) return man.down == NONE ? 1 : 0;
        if (what == 1) return man.pace;
        if (what == 2) return man.down;
        return (int) s.bargains.values().stream().filter(b -> b.living() && b.of(m)).count();
    }

    long coin(int m, int what) {
        if (!mn(m)) return zero(BEYOND);
        if (what < 0 || what > 2) return zero(NO);
        if (what == 0) return s.men.get(m).coin;
        if (what == 1) return s.men.get(m).lost;
        long sum = 0;
        for (Map.Entry<Integer, Long> e : s.extra.entrySet()) if (e.getKey() / 100 == m) sum += e.getValue();
        return sum;
    }

    int has(int m, int t, int what) {
        if (!mn(m) || !st(t)) return zero(BEYOND);
        if (what < 0 || what > 3) return zero(NO);
        if (what == 0) return s.men.get(m).hold[t];
        if (what == 3) return s.men.get(m).ask[t];
        return net(m, t, s.day / 14 + what - 1);
    }

    int net(int m, int t, int account) {
        return s.bargains.values().stream().filter(b -> b.state == 1 && b.stock == t && b.account == account)
            .mapToInt(b -> b.buyer == m ? b.shares : b.seller == m ? -b.shares : 0).sum();
    }

    int free() {
        for (int i = 0; i < 60; i++) if (!s.bargains.containsKey(i)) return i;
        return NONE;
    }

    Bargain enter(int seller, int buyer, int t, int shares, int price) {
        Bargain b = new Bargain();
        b.number = free(); b.seller = seller; b.buyer = buyer; b.stock = t; b.shares = shares; b.price = price;
        b.day = s.day;
        b.account = s.day % 14 < 10 ? s.day / 14 : s.day / 14 + 1;
        s.bargains.put(b.number, b);
        return b;
    }

    void stands(Bargain b) {
        if (b.sMark == NONE) b.sMark = s.day;
        if (b.bMark == NONE) b.bMark = s.day;
        b.state = 1;
    }

    int bargain(int men, int t, int shares, int price) {
        if (!two(men) || !st(t)) return no(BEYOND);
        if (shares < 1 || shares > 99 || price < 1 || price > 9999 || !deal(men)) return no(NO);
        if (free() == NONE) return no(FULL);
        return enter(men / 100, men % 100, t, shares, price).number;
    }

    int mark(int n, int m) {
        Bargain b = s.bargains.get(n);
        if (b == null || !mn(m)) return no(BEYOND);
        if (!b.of(m)) return no(KIND);
        if (b.state != 0 || (b.seller == m ? b.sMark : b.bMark) != NONE) return no(NO);
        if (b.seller == m) b.sMark = s.day; else b.bMark = s.day;
        if (b.sMark == NONE || b.bMark == NONE) return 0;
        b.state = 1;
        return 1;
    }

    int clear(int n) {
        Bargain b = s.bargains.get(n);
        if (b == null) return no(BEYOND);
        if (b.living()) return no(NO);
        s.bargains.remove(n);
        return b.state;
    }

    int of(int n, int what) {
        Bargain b = s.bargains.get(n);
        if (b == null) return no(BEYOND);
        if (what < 0 || what > 10) return no(NO);
        return new int[] {b.seller, b.buyer, b.stock, b.shares, b.price, b.day, b.account, b.state, b.sMark, b.bMark,
            b.putOff}[what];
    }

    int knew(int m, int t, int account, int day) {
        if (!mn(m) || !st(t)) return zero(BEYOND);
        if (account < 0 || day < 0 || day > s.day) return zero(NO);
        int net = 0;
        for (Bargain b : s.bargains.values()) {
            if (b.state == 2 || b.state == 3 || b.stock != t || b.account != account) continue;
            if (b.sMark == NONE || b.bMark == NONE || b.sMark > day || b.bMark > day) continue;
            if (b.buyer == m) net += b.shares;
            if (b.seller == m) net -= b.shares;
        }
        return net;
    }

    int putOff(int men, int t, int n) {
        if (!two(men) || !st(t)) return no(BEYOND);
        if (n < 1 || n > 99 || !deal(men) || s.day % 14 != 10 || s.made[t] == 0) return no(NO);
        if (s.bargains.size() > 58) return no(FULL);
        long rate = tell("rate", t, null);
        long price = s.made[t] + s.made[t] * rate / 10000;
        Bargain a = enter(men / 100, men % 100, t, n, s.made[t]);
        Bargain b = enter(men % 100, men / 100, t, n, (int) (price < 1 ? 1 : price > 9999 ? 9999 : price));
        a.account = s.day / 14;
        b.account = s.day / 14 + 1;
        a.putOff = b.putOff = 1;
        stands(a);
        stands(b);
        return b.number;
    }

    int option(int men, int t, int told, int last) {
        if (!two(men) || !st(t)) return no(BEYOND);
        if (told < 0 || told / 10000 < 1 || told / 10000 > 99 || told % 10000 < 1) return no(NO);
        if (last < 0 || last / 10000 < 1 || last / 10000 > 40 || !deal(men)) return no(NO);
        Man giver = s.men.get(men / 100);
        if (giver.coin < last % 10000) return no(NO);
        if (s.options.size() == 20) return no(FULL);
        giver.coin -= last % 10000;
        s.men.get(men % 100).coin += last % 10000;
        s.options.add(new int[] {men / 100, men % 100, t, told / 10000, told % 10000, s.day + last / 10000 - 1, 0});
        return s.options.size() - 1;
    }

    int declare(int i) {
        if (i < 0 || i >= s.options.size()) return no(BEYOND);
        int[] o = s.options.get(i);
        if (o[6] != 0) return no(NO);
        if (free() == NONE) return no(FULL);
        Bargain b = enter(o[1], o[0], o[2], o[3], o[4]);
        stands(b);
        o[6] = 1;
        return b.number;
    }

    int dividend(int t, int day, int pence) {
        if (!st(t)) return no(BEYOND);
        if (day < s.day || day > 699 || pence < 1 || pence > 999) return no(NO);
        if (s.dividends.size() == 10) return no(FULL);
        s.dividends.add(new int[] {t, day, pence});
        return s.dividends.size();
    }

    int feed(int bytes, int n) {
        if (n < 0) return no(BELOW);
        if (n > 4) return no(NO);
        if (tape.size() + n > 120) return no(FULL);
        for (int i = n - 1; i >= 0; i--) tape.add((int) ((bytes & 0xffffffffL) / (1L << 8 * i) % 256));
        return tape.size();
    }

    // ---- the TAPE, read by what may come next and what is open (no grammar's functions)

    record Token(String text, int place, boolean bad) { }
    static final List<String> KEYS = List.of("rate", "hour", "late", "in", "good", "div");
    static final List<String> NAMES =
        List.of("stock", "made", "day", "place", "men", "shares", "price", "seller", "buyer", "marks");

    List<Token> tokens() {
        StringBuilder all = new StringBuilder();
        for (int b : tape) all.append((char) b);
        List<Token> out = new ArrayList<>();
        java.util.regex.Matcher m = java.util.regex.Pattern.compile("[a-z]+|[0-9]+|[()+\\-*/%=<>]| +|.",
            java.util.regex.Pattern.DOTALL).matcher(all);
        while (m.find()) {
            String w = m.group();
            if (w.isBlank() && w.charAt(0) == ' ') continue;
            boolean word = KEYS.contains(w) || NAMES.contains(w) || List.of("if", "or", "and", "not").contains(w);
            boolean good = word || w.matches("[0-9]{1,5}") || w.matches("[()+\\-*/%=<>]");
            out.add(new Token(w, m.start(), !good));
        }
        return out;
    }

    static boolean operand(String w) { return NAMES.contains(w) || Character.isDigit(w.charAt(0)); }

    /** The FAULT, or NONE. */
    int fault(List<Token> tokens) {
        ArrayDeque<String> open = new ArrayDeque<>();
        ArrayDeque<Boolean> compared = new ArrayDeque<>();
        compared.push(false);
        String want = "key"; // key, not-or-one, one, after
        boolean iffed = false;
        for (Token t : tokens) {
            String w = t.text;
            if (t.bad) return t.place;
            if (want.equals("key")) {
                if (!KEYS.contains(w)) return t.place;
                want = "start";
            } else if (want.equals("start") || want.equals("one")) {
                if (w.equals("(") || w.equals("-") || w.equals("not") && want.equals("start")) {
                    if (open.size() == 6) return t.place;
                    open.push(w);
                    if (w.equals("(")) { compared.push(false); want = "start"; }
                    if (w.equals("-")) want = "one";
                } else if (operand(w)) {
                    while ("-".equals(open.peek())) open.pop();
                    want = "after";
                } else {
                    return t.place;
                }
            } else {
                if ("+-*/%".contains(w)) {
                    want = "one";
                } else if ("=<>".contains(w) && !compared.peek()) {
                    compared.pop();
                    compared.push(true);
                    want = "one";
                } else if (w.equals("and") || w.equals("or") || w.equals(")") || w.equals("if")) {
                    while ("not".equals(open.peek())) open.pop();
                    if (w.equals("and") || w.equals("or")) {
                        compared.pop();
                        compared.push(false);
                        want = "start";
                    } else if (w.equals(")")) {
                        if (!"(".equals(open.peek())) return t.place;
                        open.pop();
                        compared.pop();
                        while ("-".equals(open.peek())) open.pop();
                    } else {
                        if (iffed || !open.isEmpty()) return t.place;
                        iffed = true;
                        compared.pop();
                        compared.push(false);
                        want = "start";
                    }
                } else {
                    return t.place;
                }
            }
        }
        return want.equals("after") && !open.contains("(") ? NONE : tape.size();
    }

    int rule(int from, int to) {
        if (from < 0 || to > 1000 || from >= to) return no(NO);
        if (s.rules.size() == 12) return no(FULL);
        List<Token> tokens = tokens();
        int fault = fault(tokens);
        if (fault != NONE) return -10 - fault;
        List<String> all = new ArrayList<>();
        for (Token t : tokens) all.add(t.text);
        int at = all.indexOf("if");
        s.rules.add(new Rule(all.get(0), from, to, all.subList(1, at < 0 ? all.size() : at),
            at < 0 ? null : all.subList(at + 1, all.size())));
        tape.clear();
        return s.rules.size() - 1;
    }

    /** The last place at which one of these joins two, outside of all brackets; -1. */
    static int split(List<String> w, String... joints) {
        int depth = 0;
        for (int i = w.size() - 1; i > 0; i--) {
            if (w.get(i).equals(")")) depth++;
            if (w.get(i).equals("(")) depth--;
            boolean joins = operand(w.get(i - 1)) || w.get(i - 1).equals(")");
            if (depth == 0 && joins && Arrays.asList(joints).contains(w.get(i))) return i;
        }
        return -1;
    }

    static int value(List<String> w, Map<String, Integer> names) {
        String[][] levels = {{"or"}, {"and"}, {"not"}, {"=", "<", ">"}, {"+", "-"}, {"*", "/", "%"}};
        for (String[] level : levels) {
            if (level[0].equals("not")) {
                if (w.get(0).equals("not")) return value(w.subList(1, w.size()), names) == 0 ? 1 : 0;
                continue;
            }
            int i = split(w, level);
            if (i < 0) continue;
            int a = value(w.subList(0, i), names);
            int b = value(w.subList(i + 1, w.size()), names);
            switch (w.get(i)) {
                case "or": return a != 0 || b != 0 ? 1 : 0;
                case "and": return a != 0 && b != 0 ? 1 : 0;
                case "=": return a == b ? 1 : 0;
                case "<": return a < b ? 1 : 0;
                case ">": return a > b ? 1 : 0;
                case "+": return a + b;
                case "-": return a - b;
                case "*": return a * b;
                case "/": return b == 0 ? 0 : (int) ((long) a / b);
                default: return b == 0 ? 0 : (int) ((long) a % b);
            }
        }
        if (w.get(0).equals("-")) return -value(w.subList(1, w.size()), names);
        if (w.get(0).equals("(")) return value(w.subList(1, w.size() - 1), names);
        Integer named = names.get(w.get(0));
        return named != null ? named : Integer.parseInt(w.get(0));
    }

    Map<String, Integer> names(int t, Bargain b) {
        Map<String, Integer> n = new HashMap<>();
        n.put("stock", t);
        n.put("made", s.made[t]);
        n.put("day", s.day);
        n.put("place", s.day % 14);
        n.put("men", (int) s.men.stream().filter(m -> m.down == NONE).count());
        n.put("shares", b == null ? 0 : b.shares);
        n.put("price", b == null ? 0 : b.price);
        n.put("seller", b == null ? 0 : b.seller);
        n.put("buyer", b == null ? 0 : b.buyer);
        n.put("marks", b == null ? 0 : (b.sMark == NONE ? 0 : 1) | (b.bMark == NONE ? 0 : 2));
        return n;
    }

    int which(String key, int t, Bargain b) {
        int found = NONE;
        for (int i = 0; i < s.rules.size(); i++) {
            Rule r = s.rules.get(i);
            if (!r.key.equals(key) || s.day < r.from || s.day >= r.to) continue;
            if (r.cond == null || value(r.cond, names(t, b)) != 0) found = i;
        }
        return found;
    }

    int tell(String key, int t, Bargain b) {
        int i = which(key, t, b);
        if (i != NONE) return value(s.rules.get(i).value, names(t, b));
        return key.equals("hour") ? 120 : key.equals("div") ? 1 : 0;
    }

    boolean told(int key, int who) {
        return key >= 0 && key < 6 && (st(who) || who >= 100 && s.bargains.containsKey(who - 100));
    }

    int says(int key, int who) {
        if (!told(key, who)) return zero(BEYOND);
        Bargain b = who >= 100 ? s.bargains.get(who - 100) : null;
        return tell(KEYS.get(key), b == null ? who : b.stock, b);
    }

    int why(int key, int who) {
        if (!told(key, who)) return no(BEYOND);
        Bargain b = who >= 100 ? s.bargains.get(who - 100) : null;
        return which(KEYS.get(key), b == null ? who : b.stock, b);
    }

    // ---- DAYS

    int run(int n) {
        if (n < 0) return no(BELOW);
        if (n == 0 || n > 28) return no(NO);
        if (s.day + n > 700) return no(FULL);
        long before = s.men.stream().filter(m -> m.down != NONE).count();
        for (int i = 0; i < n; i++) close();
        return (int) (s.men.stream().filter(m -> m.down != NONE).count() - before);
    }

    void close() {
        int d = s.day;
        for (Bargain b : s.bargains.values()) {
            if (b.state != 0 || b.day >= d) continue;
            if (tell("good", b.stock, b) != 0) stands(b); else b.state = 3;
        }
        for (int[] v : s.dividends) {
            if (v[1] != d) continue;
            for (Man m : s.men) if (m.down == NONE) m.coin += (long) m.hold[v[0]] * v[2];
            for (Bargain b : s.bargains.values()) {
                if (b.stock != v[0] || b.state != 1 || b.day >= d || tell("div", b.stock, b) == 0) continue;
                s.extra.merge(b.seller * 100 + b.buyer, (long) b.shares * v[2], Long::sum);
            }
        }
        s.dividends.removeIf(v -> v[1] == d);
        if (d % 14 == 9) {
            for (int t = 0; t < s.stocks; t++) {
                int stock = t;
                s.bargains.values().stream()
                    .filter(b -> b.stock == stock && b.state == 1 && b.account == d / 14 && b.putOff == 0)
                    .max(Comparator.comparingInt((Bargain b) -> b.day).thenComparingInt(b -> b.number))
                    .ifPresent(b -> s.made[stock] = b.price);
            }
        }
        if (d % 14 == 11) names(d / 14);
        if (d % 14 == 12) settle(d / 14);
        for (int[] o : s.options) if (o[6] == 0 && o[5] == d) o[6] = 2;
        s.day++;
    }

    record Ticket(int name, int had, int shares, int minute, int late) { }

    void names(int account) {
        s.passes = new ArrayList<>();
        s.deliveries = new ArrayList<>();
        for (int t = 0; t < s.stocks; t++) {
            int[] deliver = new int[12];
            ArrayDeque<Ticket> wait = new ArrayDeque<>();
            for (int m = 0; m < s.men.size(); m++) {
                int net = net(m, t, account);
                if (net < 0) deliver[m] = -net;
                if (net > 0) wait.add(new Ticket(m, m, net, 0, NONE));
            }
            int hour = tell("hour", t, null);
            TreeMap<Integer, Integer> left = new TreeMap<>();
            for (Bargain b : s.bargains.values())
                if (b.state == 1 && b.stock == t && b.account == account) left.put(b.number, b.shares);
            while (!wait.isEmpty()) {
                Ticket k = wait.poll();
                int on = k.shares;
                if (k.had != k.name && deliver[k.had] > 0) {
                    int n = Math.min(on, deliver[k.had]);
                    deliver[k.had] -= n;
                    on -= n;
                    s.deliveries.add(new int[] {t, k.had, k.name, n, k.minute, k.late});
                }
                for (int number : left.keySet()) {
                    Bargain b = s.bargains.get(number);
                    int n = Math.min(on, left.get(number));
                    if (b.buyer != k.had || n == 0) continue;
                    left.put(number, left.get(number) - n);
                    on -= n;
                    int comes = k.minute + s.men.get(k.had).pace;
                    int late = k.late != NONE ? k.late : k.minute <= hour && comes > hour ? k.had : NONE;
                    s.passes.add(new int[] {t, k.had, b.seller, k.name, n, comes, late});
                    wait.add(new Ticket(k.name, b.seller, n, comes, late));
                }
                if (on != 0) throw new IllegalStateException("a ticket that goes nowhere");
            }
        }
    }

    static BigInteger big(long n) { return BigInteger.valueOf(n); }

    void settle(int account) {
        int n = s.men.size();
        long[][] flow = new long[13][13];
        long[] short_ = new long[n];
        for (Bargain b : s.bargains.values()) {
            if (b.state != 1 || b.account != account) continue;
            long due = (long) b.shares * (b.price - s.made[b.stock]);
            if (due >= 0) flow[b.buyer][b.seller] += due; else flow[b.seller][b.buyer] -= due;
        }
        int[][] delivered = new int[n][5];
        int[] missing = new int[s.deliveries.size()];
        for (int i = 0; i < missing.length; i++) {
            int[] d = s.deliveries.get(i);
            int t = d[0];
            long made = s.made[t];
            flow[d[2]][d[1]] += d[3] * made;
            int there = Math.max(0, s.men.get(d[1]).hold[t] - delivered[d[1]][t]);
            delivered[d[1]][t] += d[3];
            missing[i] = Math.max(0, d[3] - there);
            long in = Math.min(1000, Math.max(0, tell("in", t, null)));
            flow[d[1]][12] += missing[i] * made * (100 + in) / 100;
            short_[d[1]] += missing[i];
            long late = Math.min(1000, Math.max(0, tell("late", t, null)));
            if (d[5] != NONE && d[5] != d[2]) flow[d[5]][d[2]] += d[3] * made * late / 100;
        }
        for (Map.Entry<Integer, Long> e : s.extra.entrySet()) flow[e.getKey() / 100][e.getKey() % 100] += e.getValue();
        for (int i = 0; i < 12; i++) {
            for (int j = 0; j < 12; j++) {
                long less = Math.min(flow[i][j], flow[j][i]);
                flow[i][j] -= less;
                if (i != j) flow[j][i] -= less;
            }
        }
        long[] dues = new long[n];
        for (int i = 0; i < n; i++) dues[i] = Arrays.stream(flow[i]).sum();
        long[][] paid = new long[n][13];
        for (int round = 1; round <= 1000; round++) {
            long[][] next = new long[n][13];
            for (int i = 0; i < n; i++) {
                long has = s.men.get(i).coin;
                for (int j = 0; j < n; j++) has += paid[j][i];
                for (int j = 0; j < 13; j++) {
                    next[i][j] = has >= dues[i] ? flow[i][j]
                        : big(flow[i][j]).multiply(big(has)).divide(big(dues[i])).longValueExact();
                }
            }
            boolean same = Arrays.deepEquals(paid, next);
            paid = next;
            if (same) break;
        }
        s.settled = new long[12][5];
        List<Integer> fallen = new ArrayList<>();
        for (int i = 0; i < n; i++) {
            long gave = Arrays.stream(paid[i]).sum();
            long got = 0;
            for (int j = 0; j < n; j++) got += paid[j][i];
            s.settled[i] = new long[] {dues[i], gave, got, flow[i][12], short_[i]};
            s.men.get(i).coin += got - gave;
            if (gave != dues[i]) fallen.add(i);
        }
        for (int i = 0; i < missing.length; i++) {
            int[] d = s.deliveries.get(i);
            s.men.get(d[1]).hold[d[0]] -= d[3] - missing[i];
            s.men.get(d[2]).hold[d[0]] += d[3];
        }
        for (Bargain b : s.bargains.values()) if (b.state == 1 && b.account == account) b.state = 2;
        s.extra.clear();
        for (int i : fallen) s.men.get(i).down = s.day;
        for (int i : fallen) {
            for (Bargain b : s.bargains.values()) {
                if (!b.living() || !b.of(i)) continue;
                b.state = 3;
                if (b.seller == i) s.men.get(b.buyer).lost += Math.max(0, b.shares * (s.made[b.stock] - b.price));
                else s.men.get(b.seller).lost += Math.max(0, b.shares * (b.price - s.made[b.stock]));
            }
            for (int[] o : s.options) if (o[6] == 0 && (o[0] == i || o[1] == i)) o[6] = 2;
        }
    }

    long settled(int m, int what) {
        if (s.settled == null) return zero(MISSING);
        if (!mn(m)) return zero(BEYOND);
        if (what < 0 || what > 4) return zero(NO);
        return s.settled[m][what];
    }

    // ---- sums and rows

    int least(int t, int account) {
        if (!st(t)) return no(BEYOND);
        if (account < 0) return no(NO);
        List<Integer> nets = new ArrayList<>();
        for (int m = 0; m < s.men.size(); m++) if (net(m, t, account) != 0) nets.add(net(m, t, account));
        if (nets.size() > 10) return no(KIND);
        return nets.isEmpty() ? 0 : fewest(nets.stream().mapToInt(i -> i).toArray(), 0, new HashMap<>());
    }

    /** Whoever comes first gives all he has over, or gets all he lacks, from one other. */
    static int fewest(int[] nets, int from, Map<String, Integer> known) {
        while (from < nets.length && nets[from] == 0) from++;
        if (from == nets.length) return 0;
        String state = Arrays.toString(nets);
        Integer before = known.get(state);
        if (before != null) return before;
        int best = Integer.MAX_VALUE;
        for (int i = from + 1; i < nets.length; i++) {
            if ((long) nets[i] * nets[from] >= 0) continue;
            int[] rest = nets.clone();
            rest[i] += nets[from];
            rest[from] = 0;
            best = Math.min(best, 1 + fewest(rest, from + 1, known));
        }
        known.put(state, best);
        return best;
    }

    int judge(int t, int account) {
        if (!st(t)) return no(BEYOND);
        if (account < 0) return no(NO);
        if (row == null) return no(MISSING);
        if (row.size() % 3 != 0) return no(KIND);
        long[] left = new long[12];
        for (int m = 0; m < s.men.size(); m++) left[m] = net(m, t, account);
        for (int i = 0; i < row.size(); i += 3) {
            int from = row.get(i), to = row.get(i + 1), n = row.get(i + 2);
            if (!mn(from) || !mn(to) || n <= 0) return NONE;
            if (net(from, t, account) >= 0 || net(to, t, account) <= 0) return NONE;
            left[from] += n;
            left[to] -= n;
        }
        for (long l : left) if (l != 0) return NONE;
        return row.size() / 3;
    }

    int corner(int t, int m, int what) {
        if (!st(t) || !mn(m)) return no(BEYOND);
        if (what < 0 || what > 2) return no(NO);
        int need = 0, have = 0;
        for (int o = 0; o < s.men.size(); o++) {
            if (o == m || !up(o)) continue;
            int p = s.men.get(o).hold[t] + net(o, t, s.day / 14);
            if (p < 0) need -= p; else have += p;
        }
        return what == 1 ? need : what == 2 ? have : Math.max(0, need - have);
    }

    long squeeze(int t, int m) {
        if (!st(t) || !mn(m)) return zero(BEYOND);
        int need = 0;
        List<Integer> prices = new ArrayList<>();
        for (int o = 0; o < s.men.size(); o++) {
            if (!up(o)) continue;
            int p = s.men.get(o).hold[t] + net(o, t, s.day / 14);
            if (p < 0 && o != m) need -= p;
            for (int i = 0; i < p; i++) prices.add(s.men.get(o).ask[t]);
        }
        if (prices.size() < need) return NONE;
        return prices.stream().sorted().limit(need).mapToLong(i -> i).sum();
    }

    int rolling(int account, int n) {
        if (account < 0 || n < 0 || n > 28) return no(NO);
        List<Bargain> due = new ArrayList<>();
        for (Bargain b : s.bargains.values())
            if (b.state == 1 && b.account == account && b.day + n <= 14L * account + 13) due.add(b);
        due.sort(Comparator.comparingInt((Bargain b) -> b.day).thenComparingInt(b -> b.number));
        long[] coin = s.men.stream().mapToLong(m -> m.coin).toArray();
        java.util.Set<Integer> failed = new java.util.HashSet<>();
        for (Bargain b : due) {
            if (failed.contains(b.seller) || failed.contains(b.buyer)) continue;
            long pay = (long) b.shares * b.price;
            if (coin[b.buyer] < pay) { failed.add(b.buyer); continue; }
            coin[b.buyer] -= pay;
            coin[b.seller] += pay;
        }
        return failed.size();
    }

    int clearing(int account) {
        if (account < 0) return no(NO);
        int fails = 0;
        for (int m = 0; m < s.men.size(); m++) {
            long must = 0;
            for (Bargain b : s.bargains.values()) {
                if (b.state != 1 || b.account != account) continue;
                if (b.buyer == m) must += (long) b.shares * b.price;
                if (b.seller == m) must -= (long) b.shares * b.price;
            }
            if (s.men.get(m).coin < must) fails++;
        }
        return fails;
    }

    int count(int what) {
        switch (what) {
            case 0: return s.day;
            case 1: return s.day % 14;
            case 2: return s.day / 14;
            case 3: return s.men.size();
            case 4: return s.stocks;
            case 5: case 6: case 7: case 8:
                return (int) s.bargains.values().stream().filter(b -> b.state == what - 5).count();
            case 9: return s.options.size();
            case 10: return s.rules.size();
            case 11: return tape.size();
            case 12: return (int) s.men.stream().filter(m -> m.down != NONE).count();
            case 13: return s.passes == null ? 0 : s.passes.size();
            case 14: return s.deliveries == null ? 0 : s.deliveries.size();
            case 15: return s.dividends.size();
            default: return no(NO);
        }
    }

    int lay(int n) {
        if (n < 0) return no(BELOW);
        if (n > 60) return no(NO);
        row = new ArrayList<>(java.util.Collections.nCopies(n, 0));
        return n;
    }

    int set(int i, int v) {
        if (row == null) return zero(MISSING);
        if (i < 0 || i >= row.size()) return zero(BEYOND);
        return row.set(i, v);
    }

    int copy(int i, int j, int n) {
        if (row == null) return no(MISSING);
        if (n < 0) return no(BELOW);
        if (i < 0 || j < 0 || (long) i + n > row.size() || (long) j + n > row.size()) return no(COPY);
        List<Integer> was = new ArrayList<>(row);
        for (int k = 0; k < n; k++) row.set(j + k, was.get(i + k));
        return n;
    }
}
