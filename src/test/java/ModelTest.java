import java.lang.reflect.Method;
import java.util.ArrayList;
import java.util.Arrays;
import java.util.HashMap;
import java.util.List;
import java.util.Map;
import java.util.Random;

/** Long runs of calls, made by fixed seeds, on the class and on the Model: each answer must be the same. */
public final class ModelTest {
    private static final Map<String, Method> METHODS = new HashMap<>();
    private static final int[] EDGES = {Integer.MIN_VALUE, -101, -100, -8, -1, 0, 1, 12, 60, 99, 100, 1000, 10000,
        Integer.MAX_VALUE};
    private static final String[] RULES = {"rate made*day-5", "rate 0-2500+stock*100 if day%3=0", "rate 99999*99999",
        "rate -99999", "hour 60", "hour 99 if stock=0 or day>20", "hour -1", "hour 0", "hour 150-place",
        "late 10+stock", "late 1001", "late -5", "late 33 if made>50", "in 7", "in 2000", "in -3", "in made/3",
        "good 1", "good marks", "good marks=1 and price<90", "good not seller=buyer-1 and marks>0",
        "good shares%2 or buyer=0", "div 0 if buyer=1", "div marks-3", "div not buyer=0", "div shares/0",
        "good -(1+price/(shares-shares))", "late ((((((7))))))", "in men*10 if not(not(men<5))", "hour 2147*99999*99",
        "rate 700*stock-made", "hour 60-stock*20", "late 9*stock", "in 10*stock+made%7", "good stock or marks>1", "div stock=1",
        "div made<60", "good made>60 if stock=2"};
    private static final String LETTERS = "rate hour if or and not ()+-*/%=<>019 made x";

    private final Random random;
    private final AccountDay real = new AccountDay();
    private final Model model = new Model();
    private final List<String> calls = new ArrayList<>();
    private final Map<String, Integer> seen;
    private boolean wrong = false;

    private ModelTest(long seed, Map<String, Integer> seen) {
        random = new Random(seed);
        this.seen = seen;
    }

    private long call(String name, int... args) throws ReflectiveOperationException {
        Object[] boxed = Arrays.stream(args).boxed().toArray();
        long got = ((Number) METHODS.get(name).invoke(real, boxed)).longValue();
        long want = model.call(name, args);
        calls.add(name + Arrays.toString(args) + " = " + got);
        seen.merge(name + (got < 0 && got > -9 ? " " + got : got < -9 ? " fault" : ""), 1, Integer::sum);
        if (got != want && !wrong) {
            wrong = true;
            System.out.println(String.join("\n", calls) + "\n  but the model answers " + want);
        }
        return got;
    }

    private int below(int n) { return n <= 0 ? 0 : random.nextInt(n); }
    private int wild() { return EDGES[below(EDGES.length)]; }
    private int menCount() { return model.s.men.size(); }
    /** Mostly one that is there. */
    private int man() { return below(40) == 0 ? below(14) - 1 : below(menCount()); }
    private int stock() { return below(40) == 0 ? below(7) - 1 : below(model.s.stocks); }
    private int men() {
        int a = man();
        int b = below(30) == 0 ? a : menCount() > 1 ? (a + 1 + below(menCount() - 1)) % menCount() : man();
        return 100 * a + b;
    }
    private int price() { return below(40) == 0 ? wild() : below(4) == 0 ? 1 + below(9999) : 40 + below(60); }
    private int shares() { return below(40) == 0 ? wild() : below(3) == 0 ? 1 + below(99) : 1 + below(12); }
    private int account() { return below(30) == 0 ? wild() : model.s.day / 14 + below(4) - 1; }

    private void feedText(String text) throws ReflectiveOperationException {
        for (int i = 0; i < text.length(); ) {
            int n = Math.min(1 + below(4), text.length() - i);
            int word = below(5) == 0 ? random.nextInt() << 8 * n % 32 : 0;
            for (int j = 0; j < n; j++) word = word << 8 | text.charAt(i + j) & 255;
            call("feed", word, n);
            i += n;
        }
    }

    private void someRule() throws ReflectiveOperationException {
        call("wipe");
        StringBuilder text = new StringBuilder(RULES[below(RULES.length)]);
        int changes = below(3) == 0 ? below(4) : 0;
        for (int i = 0; i < changes && text.length() > 0; i++) {
            int at = below(text.length());
            char c = below(9) == 0 ? (char) below(256) : LETTERS.charAt(below(LETTERS.length()));
            if (below(2) == 0) text.insert(at, c); else text.setCharAt(at, c);
        }
        feedText(text.toString());
        int from = below(30) == 0 ? wild() : below(3) == 0 ? model.s.day + below(15) : 0;
        call("rule", from, below(30) == 0 ? wild() : below(3) == 0 ? from + below(40) : 1000);
    }

    private void someBargain(int marks) throws ReflectiveOperationException {
        int men = men();
        long b = call("bargain", men, stock(), shares(), price());
        if (b < 0) return;
        if (marks > 0) call("mark", (int) b, below(2) == 0 ? men / 100 : men % 100);
        if (marks > 1) { call("mark", (int) b, men / 100); call("mark", (int) b, men % 100); }
        if (below(40) == 0) call("mark", below(5) == 0 ? wild() : (int) b, man());
    }

    /** The same men around and around, so that TICKETS come back. */
    private void someRing() throws ReflectiveOperationException {
        int stock = stock();
        int size = Math.min(menCount(), 2 + below(3));
        int turns = 1 + below(3);
        for (int i = 0; i < size * turns; i++) {
            long b = call("bargain", 100 * (i % size) + (i + 1) % size, stock, 1 + below(99), price());
            if (b < 0) continue;
            call("mark", (int) b, i % size);
            call("mark", (int) b, (i + 1) % size);
        }
    }

    private void someRow() throws ReflectiveOperationException {
        int stock = stock(), account = model.s.day / 14 + below(2);
        if (!model.st(stock) || below(6) == 0) {
            call("lay", below(3) == 0 ? wild() : below(62));
            for (int i = 0; i < 4; i++) call("set", below(8) == 0 ? wild() : below(60), below(20) - 2);
            call("copy", below(60) - 1, below(60) - 1, below(6) == 0 ? wild() : below(30) - 1);
            call("copy", wild(), wild(), wild());
            call("row", below(62) - 1);
            call("judge", stock, account());
            if (below(5) == 0) call("tear");
            return;
        }
        List<int[]> passes = new ArrayList<>();
        int[] nets = new int[menCount()];
        for (int m = 0; m < nets.length; m++) nets[m] = model.net(m, stock, account);
        for (int from = 0; from < nets.length; from++)
            for (int to = 0; to < nets.length; to++) {
                int n = Math.min(-nets[from], nets[to]);
                if (n <= 0) continue;
                nets[from] += n;
                nets[to] -= n;
                passes.add(new int[] {from, to, n});
            }
        call("lay", passes.size() * 3);
        for (int i = 0; i < passes.size() * 3; i++) call("set", i, passes.get(i / 3)[i % 3]);
        call("judge", stock, account);
        if (below(2) == 0 && !passes.isEmpty()) {
            int i = below(passes.size() * 3);
            call("set", i, passes.get(i / 3)[i % 3] + below(5) - 2);
            call("judge", stock, account);
        }
    }

    private void lookAround() throws ReflectiveOperationException {
        for (int i = 0; i < 16; i++) call("count", i);
        for (int m = -1; m <= menCount(); m++) {
            for (int w = -1; w < 5; w++) { call("look", m, w); call("coin", m, w); }
            for (int w = -1; w < 6; w++) call("settled", m, w);
            for (int t = 0; t < model.s.stocks; t++) {
                for (int w = 0; w < 4; w++) call("has", m, t, w);
                for (int w = 0; w < 3; w++) call("corner", t, m, w);
                call("squeeze", t, m);
                call("knew", m, t, model.s.day / 14 + below(2), below(model.s.day + 1));
            }
        }
        for (int b = 0; b < 60; b++) for (int w = 0; w < 11; w++) if (model.s.bargains.containsKey(b)) call("of", b, w);
        for (int o = 0; o < 20; o++) for (int w = 0; w < 7; w++) if (o < model.s.options.size()) call("optionOf", o, w);
        for (int a = model.s.day / 14; a < model.s.day / 14 + 2; a++) {
            for (int n = 0; n < 29; n += 1 + below(5)) call("rolling", a, n);
            call("clearing", a);
            for (int t = 0; t < model.s.stocks; t++) call("least", t, a);
        }
        for (int t = 0; t < model.s.stocks; t++) call("made", t);
        for (int k = 0; k < 6; k++) {
            for (int t = 0; t < model.s.stocks; t++) { call("says", k, t); call("why", k, t); }
            int b = 100 + below(60);
            call("says", k, b);
            call("why", k, b);
        }
    }

    private void lookAtNames() throws ReflectiveOperationException {
        int passes = model.s.passes == null ? 0 : model.s.passes.size();
        for (int i = 0; i <= Math.min(passes, 301); i++) for (int w = 0; w < 7; w++) call("pass", i, w);
        int deliveries = model.s.deliveries == null ? 0 : model.s.deliveries.size();
        for (int i = 0; i <= deliveries; i++) for (int w = 0; w < 6; w++) call("delivery", i, w);
    }

    private void wildCall() throws ReflectiveOperationException {
        List<String> names = new ArrayList<>(METHODS.keySet());
        names.sort(null);
        String name = names.get(below(names.size()));
        int[] args = new int[METHODS.get(name).getParameterCount()];
        for (int i = 0; i < args.length; i++) args[i] = below(3) == 0 ? wild() : below(3) == 0 ? random.nextInt() : below(14) - 1;
        call(name, args);
    }

    private void step() throws ReflectiveOperationException {
        switch (below(32)) {
            case 0: case 1: case 2: case 3: someBargain(2); break;
            case 4: someBargain(below(3)); break;
            case 5: case 6: someBargain(1); break;
            case 7: someRing(); break;
            case 8: call("option", men(), stock(), 10000 * shares() + price(), 10000 * (1 + below(41)) + below(300)); break;
            case 9: call("declare", below(model.s.options.size() + 1) - (below(9) == 0 ? 1 : 0)); break;
            case 10: call("dividend", stock(), model.s.day + below(20) - 1, below(12) == 0 ? wild() : 1 + below(20)); break;
            case 11: if (below(3) == 0) someRule(); else if (below(30) == 0) burst(); break;
            case 12: call("hold", man(), stock(), below(20) == 0 ? wild() : below(30)); break;
            case 13: call("asks", man(), stock(), below(20) == 0 ? wild() : below(100)); break;
            case 14: call("lend", man(), below(20) == 0 ? wild() : below(500)); break;
            case 15: someRow(); break;
            case 16: wildCall(); break;
            case 17: if (below(6) == 0) call("image"); break;
            case 18: if (below(10) == 0) call("back"); break;
            case 19: case 20: clearSome(); break;
            case 21: if (below(4) == 0) lookAround(); break;
            case 22: if (below(8) == 0) call("man", below(3000), below(100)); break;
            case 23: if (below(8) == 0) call("stock"); break;
            default: toNextPlace();
        }
    }

    /** Beyond what there is room for. */
    private void burst() throws ReflectiveOperationException {
        int kind = below(4);
        for (int i = 0; i < 31; i++) {
            if (kind == 0) call("feed", 0x20312b31, 4);
            if (kind == 1) call("dividend", stock(), model.s.day + below(9), 1 + below(9));
            if (kind == 2) call("option", men(), stock(), 10000 * (1 + below(9)) + 50, 10000 * (1 + below(40)));
            if (kind == 3) call("run", 28);
        }
    }

    private void clearSome() throws ReflectiveOperationException {
        for (Integer b : new ArrayList<>(model.s.bargains.keySet())) {
            if (below(3) == 0 && (!model.s.bargains.get(b).living() || below(20) == 0)) call("clear", b);
        }
        call("clear", below(62) - 1);
    }

    private void toNextPlace() throws ReflectiveOperationException {
        if (below(2) == 0) return;
        int place = model.s.day % 14;
        int n = below(20) == 0 ? below(29) : place < 9 ? 1 + below(10 - place) : 1;
        call("run", n);
        place = model.s.day % 14;
        if (place == 10) for (int i = below(6); i > 0; i--) call("putOff", men(), stock(), shares());
        else if (below(10) == 0) call("putOff", men(), stock(), shares());
        if (place == 12 || place == 13) { lookAround(); lookAtNames(); }
    }

    private boolean isRight() throws ReflectiveOperationException {
        for (int i = below(5); i >= 0; i--) call("stock");
        for (int i = 2 + below(12); i >= 0; i--) call("man", below(3) == 0 ? below(100000000) : below(5000), below(100));
        for (int i = below(20); i > 0; i--) call("hold", man(), stock(), below(60));
        for (int i = below(5); i > 0; i--) someRule();
        for (int i = 0; i < 220 && !wrong; i++) step();
        for (int by = -9; by < 0; by++) call("status", by);
        return !wrong;
    }

    public static void main(String[] args) throws ReflectiveOperationException {
        for (Method m : AccountDay.class.getDeclaredMethods()) {
            if (java.lang.reflect.Modifier.isPublic(m.getModifiers())) METHODS.put(m.getName(), m);
        }
        int runs = args.length > 1 ? Integer.parseInt(args[1]) : 400;
        Map<String, Integer> seen = new java.util.TreeMap<>();
        long calls = 0;
        for (long seed = 1; seed <= runs; seed++) {
            ModelTest test = new ModelTest(seed, seen);
            if (!test.isRight()) {
                System.out.println("seed " + seed);
                System.exit(1);
            }
            calls += test.calls.size();
        }
        if (args.length > 2) System.out.println(seen);
        System.out.println("ModelTest: " + calls + " answers of " + runs + " runs as the model's");
    }
}
