import java.util.ArrayList;
import java.util.List;
import java.util.function.Supplier;
import java.util.function.ToLongFunction;

/** What the tests by hand share: short ways to say calls, exchanges in some state, all that can be seen of one. */
abstract class Bench {
    static final int NONE = -1, MISSING = -2, BEYOND = -3, BELOW = -4, KIND = -5, COPY = -6, NO = -7, FULL = -8;
    static final int LEAST = Integer.MIN_VALUE, MOST = Integer.MAX_VALUE;
    static final int OPEN = 0, STANDS = 1, SETTLED = 2, VOID = 3;
    private static int asked = 0;
    private static int wrong = 0;

    static void due(int promise, String what, long got, long want) {
        asked++;
        if (got != want) {
            wrong++;
            System.out.println("promise " + promise + ": " + what + " answered " + got + ", due is " + want);
        }
    }

    /** Ends the test's run: by exit code 1 if an answer was wrong. */
    static void end(String test) {
        System.out.println(test + ": " + asked + " answers, " + wrong + " wrong");
        if (wrong != 0) System.exit(1);
    }

    // ---- short ways to say calls

    static AccountDay exchange(int men, int coin, int pace, int stocks) {
        AccountDay x = new AccountDay();
        for (int i = 0; i < men; i++) x.man(coin, pace);
        for (int i = 0; i < stocks; i++) x.stock();
        return x;
    }

    /** A BARGAIN that both marked. */
    static int stands(AccountDay x, int men, int stock, int shares, int price) {
        int b = x.bargain(men, stock, shares, price);
        x.mark(b, men / 100);
        x.mark(b, men % 100);
        return b;
    }

    static void feed(AccountDay x, String text) {
        for (int i = 0; i < text.length(); i += 4) {
            int n = Math.min(4, text.length() - i);
            int bytes = 0;
            for (int j = 0; j < n; j++) bytes = bytes << 8 | text.charAt(i + j) & 255;
            x.feed(bytes, n);
        }
    }

    static int rule(AccountDay x, String text, int from, int to) {
        x.wipe();
        feed(x, text);
        return x.rule(from, to);
    }

    static int rule(AccountDay x, String text) {
        return rule(x, text, 0, 1000);
    }

    /** What the RULE (of the KEY rate) SAYS of STOCK 1 of 2, with 3 MEN, on DAY 0. */
    static int says(String text) {
        AccountDay x = exchange(3, 10, 0, 2);
        rule(x, text);
        return x.says(0, 1);
    }

    /** The FAULT of THE TAPE; below 0 if it is a RULE. */
    static int fault(String text) {
        return -10 - rule(exchange(1, 0, 0, 1), text);
    }

    static boolean isRule(String text) {
        return rule(exchange(1, 0, 0, 1), text) == 0;
    }

    static void toDay(AccountDay x, int day) {
        while (x.count(0) < day) x.run(Math.min(28, day - x.count(0)));
    }

    static void toPlace(AccountDay x, int place) {
        while (x.count(1) != place) x.run(1);
    }

    static int judged(AccountDay x, int... row) {
        x.lay(row.length);
        for (int i = 0; i < row.length; i++) x.set(i, row[i]);
        return x.judge(0, 0);
    }

    static int[] statuses(AccountDay x) {
        int[] counts = new int[7];
        for (int i = 0; i < 7; i++) counts[i] = x.status(FULL + i);
        return counts;
    }

    // ---- what NAMES noted

    static void seesPasses(AccountDay x, int[][] passes) {
        due(36, "PASSES", x.count(13), passes.length);
        for (int i = 0; i < passes.length; i++) {
            for (int what = 0; what < 7; what++) due(27, "pass(" + i + ", " + what + ")", x.pass(i, what), passes[i][what]);
        }
    }

    static void seesDeliveries(AccountDay x, int[][] told) {
        due(36, "DELIVERIES", x.count(14), told.length);
        for (int i = 0; i < told.length; i++) {
            for (int what = 0; what < 6; what++) due(28, "delivery(" + i + ", " + what + ")", x.delivery(i, what), told[i][what]);
        }
    }

    // ---- exchanges in some state

    /** DAY 1: 4 MEN, 2 STOCKS; BARGAINS 0 (marked by its SELLER) and 2 are OPEN, 1 STANDS; one of most things. */
    static AccountDay begun() {
        AccountDay x = new AccountDay();
        for (int m = 0; m < 4; m++) x.man(1000 + m, 10 * m);
        x.stock();
        x.stock();
        x.hold(0, 0, 20);
        x.hold(1, 1, 8);
        x.asks(0, 0, 70);
        rule(x, "good price>50");
        x.mark(x.bargain(1, 0, 5, 60), 0);
        stands(x, 102, 0, 10, 55);
        x.bargain(203, 1, 3, 40);
        x.option(1, 0, 50020, 30100);
        x.dividend(0, 20, 7);
        x.image();
        x.run(1);
        feed(x, "in 1");
        x.lay(4);
        x.set(2, 9);
        return x;
    }

    /**
     * DAY 13, behind NAMES and SETTLING: MAN 3 is DOWN; BARGAINS 0, 1 are SETTLED, 2, 3 VOID, 4 STANDS, 5 is
     * OPEN; OPTION 0 is DECLARED, 1 OVER, 2 OPEN.
     */
    static AccountDay settledOnce() {
        AccountDay x = new AccountDay();
        for (int m = 0; m < 4; m++) x.man(m == 3 ? 0 : 5000, 10 * m);
        x.stock();
        x.stock();
        x.hold(0, 0, 5);
        stands(x, 1, 0, 5, 60);
        stands(x, 103, 0, 9, 70);
        x.bargain(2, 0, 1, 1);
        x.option(1, 1, 10050, 400000);
        x.option(1, 1, 10050, 10000);
        x.option(102, 1, 20060, 400000);
        x.run(12);
        stands(x, 302, 1, 4, 30);
        x.declare(0);
        x.bargain(1, 0, 3, 65);
        x.run(1);
        x.lay(0);
        return x;
    }

    /** DAY 0, and no room for anything more. */
    static AccountDay full() {
        AccountDay x = exchange(12, 1000, 5, 5);
        for (int i = 0; i < 12; i++) rule(x, "in 1");
        for (int b = 0; b < 60; b++) x.bargain(1, 0, 1, 1);
        for (int i = 0; i < 20; i++) x.option(1, 0, 10001, 20000);
        for (int i = 0; i < 10; i++) x.dividend(4, 699, 1);
        for (int i = 0; i < 30; i++) x.feed(0, 4);
        x.lay(60);
        return x;
    }

    /** DAY 10: MADE of STOCK 0 is 200, of STOCK 1 it is 0; so many BARGAINS in all. */
    static AccountDay madeUp(int bargains) {
        AccountDay x = exchange(4, 1000, 0, 2);
        stands(x, 1, 0, 5, 200);
        x.run(10);
        for (int b = 1; b < bargains; b++) x.bargain(1, 0, 1, 1);
        return x;
    }

    /** DAY 24, place 10: MAN 1 is DOWN, MADE of STOCK 0 is 50. */
    static AccountDay madeUpWithOneDown() {
        AccountDay x = exchange(3, 0, 0, 1);
        stands(x, 1, 0, 1, 50);
        x.hold(0, 0, 1);
        x.run(24);
        return x;
    }

    /** Nothing can be closed any more. */
    static AccountDay atTheEnd() {
        AccountDay x = exchange(2, 10, 0, 1);
        toDay(x, 700);
        return x;
    }

    // ---- all that can be seen of an exchange, by fewer than 300 calls each

    private static final List<List<ToLongFunction<AccountDay>>> VIEWS = List.of(sums(), holdings(), bargainsFrom(0),
        bargainsFrom(20), bargainsFrom(40), optionsAndRules(), corners(), tickets(), tapeAndImage(), future());

    private static List<ToLongFunction<AccountDay>> sums() {
        List<ToLongFunction<AccountDay>> calls = new ArrayList<>();
        each(16, what -> calls.add(x -> x.count(what)));
        each(5, stock -> calls.add(x -> x.made(stock)));
        each(12, man -> {
            each(4, what -> calls.add(x -> x.look(man, what)));
            each(3, what -> calls.add(x -> x.coin(man, what)));
            each(5, what -> calls.add(x -> x.settled(man, what)));
        });
        each(61, i -> calls.add(x -> x.row(i)));
        return calls;
    }

    private static List<ToLongFunction<AccountDay>> holdings() {
        List<ToLongFunction<AccountDay>> calls = new ArrayList<>();
        each(12, man -> each(5, stock -> each(4, what -> calls.add(x -> x.has(man, stock, what)))));
        return calls;
    }

    private static List<ToLongFunction<AccountDay>> bargainsFrom(int from) {
        List<ToLongFunction<AccountDay>> calls = new ArrayList<>();
        each(20, b -> each(11, what -> calls.add(x -> x.of(from + b, what))));
        return calls;
    }

    private static List<ToLongFunction<AccountDay>> optionsAndRules() {
        List<ToLongFunction<AccountDay>> calls = new ArrayList<>();
        each(20, o -> each(7, what -> calls.add(x -> x.optionOf(o, what))));
        each(6, key -> each(5, stock -> {
            calls.add(x -> x.says(key, stock));
            calls.add(x -> x.why(key, stock));
        }));
        return calls;
    }

    private static List<ToLongFunction<AccountDay>> corners() {
        List<ToLongFunction<AccountDay>> calls = new ArrayList<>();
        each(12, man -> each(5, stock -> {
            calls.add(x -> x.corner(stock, man, 0));
            calls.add(x -> x.squeeze(stock, man));
            calls.add(x -> x.knew(man, stock, x.count(2), x.count(0)));
        }));
        each(5, stock -> calls.add(x -> x.least(stock, x.count(2))));
        calls.add(x -> x.rolling(x.count(2), 0));
        calls.add(x -> x.clearing(x.count(2)));
        return calls;
    }

    private static List<ToLongFunction<AccountDay>> tickets() {
        List<ToLongFunction<AccountDay>> calls = new ArrayList<>();
        each(15, i -> each(7, what -> calls.add(x -> x.pass(i, what))));
        each(15, i -> each(6, what -> calls.add(x -> x.delivery(i, what))));
        return calls;
    }

    private static List<ToLongFunction<AccountDay>> tapeAndImage() {
        List<ToLongFunction<AccountDay>> calls = new ArrayList<>();
        calls.add(x -> x.rule(0, 1000));
        each(6, key -> calls.add(x -> x.says(key, 0)));
        calls.add(x -> x.wipe());
        calls.add(x -> x.back());
        calls.addAll(sums());
        return calls;
    }

    private static List<ToLongFunction<AccountDay>> future() {
        List<ToLongFunction<AccountDay>> calls = new ArrayList<>();
        each(28, i -> calls.add(x -> x.run(1)));
        each(12, man -> each(3, what -> calls.add(x -> x.coin(man, what))));
        each(12, man -> each(5, stock -> calls.add(x -> x.has(man, stock, 0))));
        each(60, b -> calls.add(x -> x.of(b, 7)));
        return calls;
    }

    private interface Each {
        void on(int i);
    }

    private static void each(int n, Each what) {
        for (int i = 0; i < n; i++) what.on(i);
    }

    /** Each view is of an exchange of its own, since some change what they look at. */
    static List<Long> allOf(Supplier<AccountDay> exchange) {
        List<Long> seen = new ArrayList<>();
        for (List<ToLongFunction<AccountDay>> view : VIEWS) {
            AccountDay x = exchange.get();
            for (ToLongFunction<AccountDay> call : view) seen.add(call.applyAsLong(x));
        }
        return seen;
    }
}
