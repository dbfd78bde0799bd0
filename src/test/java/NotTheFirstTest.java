/**
 * What is told of a STOCK, a MAN, a BARGAIN, an OPTION, an ACCOUNT is of that very one: here none of them is the
 * first one, and the first one would answer otherwise. (A class that asks STOCK 0 for all of them fails here.)
 */
public final class NotTheFirstTest extends Bench {
    private static void sees(AccountDay x, int bargain, int... told) {
        for (int what = 0; what < told.length; what++) due(14, "of(" + bargain + ", " + what + ")", x.of(bargain, what), told[what]);
    }

    private static void seesOf(AccountDay x, String told, int what, long... ofMen) {
        for (int m = 0; m < ofMen.length; m++) due(29, told + " of MAN " + m, x.settled(m, what), ofMen[m]);
    }

    private static void seesCoin(AccountDay x, long... ofMen) {
        for (int m = 0; m < ofMen.length; m++) due(8, "COIN of MAN " + m, x.coin(m, 0), ofMen[m]);
    }

    // ---- bargains, options

    private static void netsOfAnotherStock() {
        AccountDay x = exchange(5, 1000, 0, 3);
        x.run(10);
        stands(x, 304, 0, 2, 10);
        stands(x, 403, 2, 7, 10);
        int[][] ofNext = {{0, 0, 0}, {0, 0, 0}, {0, 0, 0}, {-2, 0, 7}, {2, 0, -7}};
        for (int m = 0; m < 5; m++) {
            for (int t = 0; t < 3; t++) {
                due(9, "NET in the next ACCOUNT", x.has(m, t, 2), ofNext[m][t]);
                due(9, "NET in this one", x.has(m, t, 1), 0);
                due(15, "known, in the next ACCOUNT", x.knew(m, t, 1, 10), ofNext[m][t]);
                due(15, "known, in this one", x.knew(m, t, 0, 10), 0);
                due(15, "known the DAY before", x.knew(m, t, 1, 9), 0);
            }
        }
    }

    /** Marked by both on DAYS 0, 4 (the BUYER last) and 5 (the SELLER last). */
    private static void knownFromWhichDay() {
        AccountDay x = exchange(2, 1000, 0, 1);
        stands(x, 1, 0, 5, 10);
        x.run(3);
        x.bargain(1, 0, 4, 10);
        x.mark(1, 0);
        x.run(1);
        x.mark(1, 1);
        x.bargain(1, 0, 2, 10);
        x.mark(2, 1);
        x.run(1);
        x.mark(2, 0);
        x.run(1);
        sees(x, 1, 0, 1, 0, 4, 10, 3, 0, STANDS, 3, 4, 0);
        sees(x, 2, 0, 1, 0, 2, 10, 4, 0, STANDS, 5, 4, 0);
        int[] known = {5, 5, 5, 5, 9, 11, 11};
        for (int day = 0; day < 7; day++) {
            due(15, "what the BUYER knew on DAY " + day, x.knew(1, 0, 0, day), known[day]);
            due(15, "what the SELLER knew on DAY " + day, x.knew(0, 0, 0, day), -known[day]);
        }
    }

    private static void whoHadMarkedAlready() {
        AccountDay x = exchange(2, 1000, 0, 1);
        rule(x, "good 1");
        x.run(2);
        for (int b = 0; b < 3; b++) x.bargain(1, 0, 1, 10);
        x.mark(1, 0);
        x.mark(2, 1);
        x.run(2);
        sees(x, 0, 0, 1, 0, 1, 10, 2, 0, STANDS, 3, 3);
        sees(x, 1, 0, 1, 0, 1, 10, 2, 0, STANDS, 2, 3);
        sees(x, 2, 0, 1, 0, 1, 10, 2, 0, STANDS, 3, 2);
    }

    private static void whichOfHisBargainsLive() {
        AccountDay x = exchange(4, 1000, 0, 1);
        x.bargain(203, 0, 1, 10);
        stands(x, 203, 0, 1, 10);
        x.run(2);
        due(14, "VOID by then", x.of(0, 7), VOID);
        due(7, "one STANDS, one is VOID", x.look(2, 3), 1);
        x.bargain(302, 0, 1, 10);
        due(7, "one more is OPEN", x.look(2, 3), 2);
        due(7, "of the other one", x.look(3, 3), 2);
        due(7, "of nobody else", x.look(0, 3), 0);
        x = exchange(4, 1000, 0, 1);
        stands(x, 203, 0, 1, 10);
        x.bargain(203, 0, 1, 10);
        x.run(2);
        due(7, "the first STANDS, the second is VOID", x.look(3, 3), 1);
        x = exchange(6, 1000, 0, 1);
        stands(x, 1, 0, 1, 10);
        stands(x, 203, 0, 1, 10);
        x.bargain(304, 0, 1, 10);
        int[] living = {1, 1, 1, 2, 1, 0};
        for (int m = 0; m < 6; m++) due(7, "of MAN " + m, x.look(m, 3), living[m]);
    }

    /** DAY 10: MADE is 300, 400, 200; 4, 6 and those from 7 on are free. */
    private static void putOffInAnotherStock() {
        AccountDay x = exchange(4, 1000, 0, 3);
        rule(x, "rate 500*stock+made/400");
        stands(x, 1, 0, 1, 300);
        stands(x, 1, 1, 1, 400);
        stands(x, 1, 2, 1, 200);
        stands(x, 1, 0, 1, 300);
        x.bargain(1, 0, 1, 1);
        stands(x, 1, 0, 1, 300);
        x.bargain(1, 0, 1, 1);
        x.run(10);
        x.clear(4);
        x.clear(6);
        due(16, "in STOCK 2", x.putOff(203, 2, 6), 6);
        sees(x, 4, 2, 3, 2, 6, 200, 10, 0, STANDS, 10, 10, 1);
        sees(x, 6, 3, 2, 2, 6, 220, 10, 1, STANDS, 10, 10, 1);
        due(16, "in STOCK 1, 501 of 10000", x.putOff(302, 1, 99), 8);
        sees(x, 7, 3, 2, 1, 99, 400, 10, 0, STANDS, 10, 10, 1);
        sees(x, 8, 2, 3, 1, 99, 420, 10, 1, STANDS, 10, 10, 1);
        due(9, "NET, STOCK 2", x.has(3, 2, 1), 6);
        due(9, "NET in the next ACCOUNT, STOCK 2", x.has(3, 2, 2), -6);
        due(9, "NET, STOCK 1", x.has(3, 1, 1), -99);
    }

    private static void whichOptionIsDeclared() {
        AccountDay x = exchange(6, 1000, 0, 3);
        x.option(1, 0, 50020, 30000);
        x.option(203, 1, 70033, 50000);
        x.option(405, 2, 90044, 70000);
        due(18, "the first", x.declare(0), 0);
        due(17, "one more", x.option(503, 1, 20011, 90000), 3);
        int[] states = {1, 0, 0, 0};
        for (int o = 0; o < 4; o++) due(19, "STATE of OPTION " + o, x.optionOf(o, 6), states[o]);
        due(18, "the third", x.declare(2), 1);
        due(18, "the last", x.declare(3), 2);
        sees(x, 0, 1, 0, 0, 5, 20, 0, 0, STANDS, 0, 0, 0);
        sees(x, 1, 5, 4, 2, 9, 44, 0, 0, STANDS, 0, 0, 0);
        sees(x, 2, 3, 5, 1, 2, 11, 0, 0, STANDS, 0, 0, 0);
        x.run(5);
        int[] later = {1, 2, 1, 1};
        for (int o = 0; o < 4; o++) due(19, "later, STATE of OPTION " + o, x.optionOf(o, 6), later[o]);
        due(17, "one more", x.option(1, 0, 10001, 10000), 4);
        for (int o = 0; o < 4; o++) due(19, "it changes no other one's STATE", x.optionOf(o, 6), later[o]);
    }

    // ---- rules

    private static void ofWhichBargainARuleSays() {
        AccountDay x = exchange(4, 1000, 0, 2);
        rule(x, "good 1 if shares>5");
        rule(x, "good 2 if price=77 and stock=1");
        x.bargain(1, 0, 3, 77);
        x.bargain(1, 0, 6, 50);
        x.bargain(203, 1, 3, 77);
        x.bargain(203, 0, 9, 77);
        int[] why = {NONE, 0, 1, 0};
        int[] says = {0, 1, 2, 1};
        for (int b = 0; b < 4; b++) {
            due(25, "which RULE, of BARGAIN " + b, x.why(4, 100 + b), why[b]);
            due(24, "what it SAYS", x.says(4, 100 + b), says[b]);
        }
        due(25, "of a STOCK", x.why(4, 1), NONE);
        x.run(2);
        int[] states = {VOID, STANDS, STANDS, STANDS};
        for (int b = 0; b < 4; b++) due(26, "the STATE of BARGAIN " + b, x.of(b, 7), states[b]);
    }

    /** 96 and 123 stand next to a and z, 47 (a SIGN) and 58 next to 0 and 9. */
    private static void whereAWordEnds() {
        due(23, "{ behind a KEY", fault("rate{1"), 4);
        due(23, "` behind a KEY", fault("rate`1"), 4);
        due(23, "{ behind a NAME", fault("rate made{"), 9);
        due(23, "` behind a NAME", fault("rate made`"), 9);
        due(23, ": behind a NUMBER", fault("rate 19:"), 7);
        due(23, "/ behind a NUMBER", isRule("rate 19/3") ? 1 : 0, 1);
    }

    // ---- the closing of a DAY

    /** Who owes EXTRA: MEN 0 and 3 sold STOCK 1, MAN 2 sold STOCK 0, MAN 4 sold STOCK 2. */
    private static void dividends(String div, int stock, long... extra) {
        AccountDay x = exchange(5, 1000, 0, 3);
        if (!div.isEmpty()) rule(x, div);
        x.hold(2, 2, 4);
        stands(x, 1, 1, 3, 50);
        stands(x, 203, 0, 4, 50);
        stands(x, 304, 1, 5, 50);
        stands(x, 401, 2, 6, 50);
        for (int t = 0; t < 3; t++) if (stock == t || stock == NONE) x.dividend(t, 1, 10);
        x.run(2);
        for (int m = 0; m < 5; m++) due(8, div + ": EXTRA of MAN " + m, x.coin(m, 2), extra[m]);
        due(8, div + ": HOLD times PENCE", x.coin(2, 0), stock == 2 || stock == NONE ? 1040 : 1000);
    }

    private static void dividendsOfAnotherStock() {
        dividends("", 0, 0, 0, 40, 0, 0);
        dividends("", 1, 30, 0, 0, 50, 0);
        dividends("", 2, 0, 0, 0, 0, 60);
        dividends("", NONE, 30, 0, 40, 50, 60);
        dividends("div stock=1", NONE, 30, 0, 0, 50, 0);
        dividends("div stock", NONE, 30, 0, 0, 50, 60);
        dividends("div seller=3 or stock=0", NONE, 0, 0, 40, 50, 0);
    }

    /** By DAYS 0, 5, 3: the second was made last. */
    private static void madeLast() {
        AccountDay x = exchange(2, 1000, 0, 2);
        stands(x, 1, 1, 1, 10);
        x.bargain(1, 1, 1, 20);
        x.run(3);
        stands(x, 1, 1, 1, 30);
        x.run(2);
        x.clear(1);
        due(11, "the number is used again", stands(x, 1, 1, 1, 50), 1);
        x.run(5);
        due(10, "MADE is the PRICE of DAY 5", x.made(1), 50);
        due(10, "without one it stays", x.made(0), 0);
        due(16, "PUT OFF", x.putOff(1, 1, 2), 4);
        x.run(14);
        due(10, "a BARGAIN to PUT OFF makes nothing up", x.made(1), 50);
        x = exchange(2, 1000, 0, 1);
        rule(x, "rate 5000");
        stands(x, 1, 0, 1, 40);
        stands(x, 1, 0, 1, 50);
        x.run(10);
        x.putOff(1, 0, 1);
        due(14, "at its rate", x.of(3, 4), 75);
        x.run(14);
        due(10, "nor at its own PRICE", x.made(0), 50);
    }

    // ---- tickets

    /** In each STOCK 0 sells 5 to 1, 1 to 2: PASSES that come at 50 and 100. */
    private static void late(String hour, int[][] who) {
        AccountDay x = exchange(3, 99999, 50, 3);
        rule(x, hour);
        for (int t = 0; t < 3; t++) {
            stands(x, 1, t, 5, 10);
            stands(x, 102, t, 5, 10);
        }
        x.run(12);
        int[][] passes = new int[6][];
        int[][] deliveries = new int[3][];
        for (int t = 0; t < 3; t++) {
            passes[2 * t] = new int[] {t, 2, 1, 2, 5, 50, who[t][0]};
            passes[2 * t + 1] = new int[] {t, 1, 0, 2, 5, 100, who[t][1]};
            deliveries[t] = new int[] {t, 0, 2, 5, 100, who[t][1]};
        }
        seesPasses(x, passes);
        seesDeliveries(x, deliveries);
    }

    private static void theHourOfAStock() {
        late("hour 60+20*stock", new int[][] {{NONE, 1}, {NONE, 1}, {NONE, NONE}});
        late("hour 60-20*stock", new int[][] {{NONE, 1}, {2, 2}, {2, 2}});
        late("hour 100 if stock=1", new int[][] {{NONE, NONE}, {NONE, NONE}, {NONE, NONE}});
        late("hour 99 if stock=1", new int[][] {{NONE, NONE}, {NONE, 1}, {NONE, NONE}});
    }

    /** 2 sells 8 to 3 and 6 to 4, bought 4 of 1 and 5 of 0; all at 100, each PACE is 10. */
    private static AccountDay twoNames() {
        AccountDay x = exchange(5, 10000, 10, 1);
        stands(x, 203, 0, 8, 100);
        stands(x, 204, 0, 6, 100);
        stands(x, 102, 0, 4, 100);
        stands(x, 2, 0, 5, 100);
        return x;
    }

    private static void twoNamesAndWhoDelivers() {
        AccountDay x = twoNames();
        x.run(12);
        seesPasses(x, new int[][] {{0, 3, 2, 3, 8, 10, NONE}, {0, 4, 2, 4, 6, 10, NONE}, {0, 2, 1, 3, 3, 20, NONE},
            {0, 2, 1, 4, 1, 20, NONE}, {0, 2, 0, 4, 5, 20, NONE}});
        seesDeliveries(x, new int[][] {{0, 2, 3, 5, 10, NONE}, {0, 1, 3, 3, 20, NONE}, {0, 1, 4, 1, 20, NONE},
            {0, 0, 4, 5, 20, NONE}});
    }

    // ---- settling

    /** MAN 2 is LATE with all that he passes on, 9 SHARES: he owes half of their worth. */
    private static void whoWasLateOwes() {
        AccountDay x = twoNames();
        rule(x, "hour 15");
        rule(x, "late 50");
        x.hold(0, 0, 5);
        x.hold(1, 0, 4);
        x.hold(2, 0, 5);
        x.run(12);
        int[] late = {NONE, 2, 2, 2};
        for (int i = 0; i < 4; i++) due(28, "who is LATE with DELIVERY " + i, x.delivery(i, 5), late[i]);
        x.run(1);
        seesOf(x, "DUES", 0, 0, 0, 300, 650, 600);
        seesOf(x, "what was paid", 1, 0, 0, 300, 650, 600);
        seesOf(x, "what was got", 2, 500, 400, 350, 0, 300);
        seesOf(x, "owed THE MARKET", 3, 0, 0, 0, 0, 0);
        seesCoin(x, 10500, 10400, 10050, 9350, 9700);
    }

    /** HOLD of who delivers is 2 of 5, 1 of 4, 4 of 5. */
    private static void whoOwesTheMarket() {
        AccountDay x = twoNames();
        rule(x, "in 10");
        x.hold(0, 0, 2);
        x.hold(1, 0, 1);
        x.hold(2, 0, 4);
        x.run(13);
        seesOf(x, "owed THE MARKET", 3, 330, 330, 110, 0, 0);
        seesOf(x, "BOUGHT IN", 4, 3, 3, 1, 0, 0);
        seesOf(x, "DUES", 0, 330, 330, 110, 800, 600);
        seesCoin(x, 10170, 10070, 10390, 9200, 9400);
        int[] hold = {0, 0, 0, 8, 6};
        for (int m = 0; m < 5; m++) due(9, "HOLD of MAN " + m, x.has(m, 0, 0), hold[m]);
    }

    /** In STOCKS 1 and 2: 0, who has none, sells 10 to 2, 2 (PACE 99) to 1, at 100; COIN of MAN 0 is told. */
    private static AccountDay ratesByStock(int coin) {
        AccountDay x = new AccountDay();
        x.man(coin, 0);
        x.man(9000, 0);
        x.man(9000, 99);
        for (int t = 0; t < 3; t++) x.stock();
        rule(x, "hour 50");
        rule(x, "in 10*stock");
        rule(x, "late 5*stock+5");
        for (int t = 1; t < 3; t++) {
            stands(x, 2, t, 10, 100);
            stands(x, 201, t, 10, 100);
        }
        x.run(13);
        return x;
    }

    private static void ratesOfAStock() {
        AccountDay x = ratesByStock(9000);
        seesOf(x, "DUES", 0, 2300, 2000, 250);
        seesOf(x, "owed THE MARKET", 3, 2300, 0, 0);
        seesOf(x, "BOUGHT IN", 4, 20, 0, 0);
        seesCoin(x, 8700, 7250, 8750);
    }

    /** What he owed, whether he paid it or not. */
    private static void owedTheMarketButNotPaid() {
        AccountDay x = ratesByStock(100);
        seesOf(x, "DUES", 0, 2300, 2000, 250);
        seesOf(x, "what was paid", 1, 2100, 2000, 250);
        seesOf(x, "owed THE MARKET", 3, 2300, 0, 0);
        due(8, "nothing is left", x.coin(0, 0), 0);
        due(7, "he is DOWN", x.look(0, 0), 0);
    }

    /** Differences in the second ACCOUNT, with what was made ahead of it and in it. */
    private static void theSecondAccount() {
        AccountDay x = exchange(4, 10000, 0, 2);
        x.hold(0, 0, 5);
        x.hold(2, 1, 10);
        x.hold(3, 0, 5);
        stands(x, 1, 0, 5, 100);
        x.run(11);
        stands(x, 301, 0, 2, 120);
        stands(x, 301, 0, 3, 130);
        x.run(2);
        int[] first = {SETTLED, STANDS, STANDS};
        for (int b = 0; b < 3; b++) due(14, "STATE of BARGAIN " + b, x.of(b, 7), first[b]);
        seesOf(x, "DUES", 0, 0, 500, 0, 0);
        x.run(1);
        stands(x, 203, 1, 4, 50);
        x.run(1);
        stands(x, 203, 1, 6, 60);
        x.run(12);
        due(10, "MADE, STOCK 0", x.made(0), 130);
        due(10, "MADE, STOCK 1", x.made(1), 60);
        for (int b = 0; b < 5; b++) due(14, "STATE of BARGAIN " + b, x.of(b, 7), SETTLED);
        seesOf(x, "DUES", 0, 0, 630, 0, 560);
        seesOf(x, "what was got", 2, 0, 0, 560, 630);
        seesCoin(x, 10500, 8870, 10560, 10070);
    }

    /** MAN 1 can't pay: of the OPTIONS with him those that are OPEN are OVER. */
    private static void optionsOfWhoIsDown() {
        AccountDay x = new AccountDay();
        for (int m = 0; m < 3; m++) x.man(m == 1 ? 0 : 1000, 0);
        x.stock();
        x.hold(0, 0, 5);
        stands(x, 1, 0, 5, 100);
        x.option(201, 0, 10001, 200000);
        x.option(102, 0, 10001, 200000);
        x.option(201, 0, 10001, 200000);
        x.option(2, 0, 10001, 200000);
        x.run(11);
        x.declare(0);
        due(26, "one becomes DOWN", x.run(2), 1);
        int[] states = {1, 2, 2, 0};
        for (int o = 0; o < 4; o++) due(19, "STATE of OPTION " + o, x.optionOf(o, 6), states[o]);
        due(14, "what was DECLARED is VOID", x.of(1, 7), VOID);
    }

    // ---- sums

    /** In STOCK 1 MAN 0 needs 5; 2 has 4, 3 has 3, 1 has 5; PRICES ASKED in STOCK 0 would be in another order. */
    private static void squeezeInAnotherStock() {
        AccountDay x = exchange(5, 1000, 0, 2);
        stands(x, 1, 1, 5, 10);
        x.hold(2, 1, 4);
        x.hold(3, 1, 3);
        int[][] asked = {{3, 8}, {1, 9}, {8, 5}, {2, 7}, {9, 1}};
        for (int m = 0; m < 5; m++) for (int t = 0; t < 2; t++) x.asks(m, t, asked[m][t]);
        for (int m = 1; m < 5; m++) due(33, "4 at 5, 1 at 7", x.squeeze(1, m), 27);
        due(33, "his own NEED isn't counted", x.squeeze(1, 0), 0);
        due(33, "nothing is needed in STOCK 0", x.squeeze(0, 4), 0);
        due(32, "CORNER by 1", x.corner(1, 1, 0), 0);
        due(32, "HAVE, without 1", x.corner(1, 1, 2), 7);
        due(32, "HAVE, without 2", x.corner(1, 2, 2), 8);
        due(32, "nothing in STOCK 0", x.corner(0, 1, 2), 0);
    }

    private static void otherWaysOfWhichBargains() {
        AccountDay x = exchange(4, 100, 0, 1);
        x.bargain(1, 0, 5, 50);
        stands(x, 3, 0, 5, 50);
        stands(x, 203, 0, 5, 50);
        x.bargain(102, 0, 5, 50);
        for (int again = 0; again < 2; again++) {
            due(34, "MAN 3 fails, once; what is OPEN doesn't count", x.rolling(0, 0), 1);
            due(35, "likewise", x.clearing(0), 1);
        }
        seesCoin(x, 100, 100, 100, 100);
        x.run(2);
        due(34, "the first is VOID", x.rolling(0, 0), 1);
        due(35, "likewise", x.clearing(0), 1);
        x = exchange(4, 100, 0, 1);
        stands(x, 1, 0, 1, 50);
        x.bargain(3, 0, 5, 50);
        due(34, "the first STANDS, the second is OPEN", x.rolling(0, 0), 0);
        due(35, "likewise", x.clearing(0), 0);
    }

    public static void main(String[] args) {
        netsOfAnotherStock();
        knownFromWhichDay();
        whoHadMarkedAlready();
        whichOfHisBargainsLive();
        putOffInAnotherStock();
        whichOptionIsDeclared();
        ofWhichBargainARuleSays();
        whereAWordEnds();
        dividendsOfAnotherStock();
        madeLast();
        theHourOfAStock();
        twoNamesAndWhoDelivers();
        whoWasLateOwes();
        whoOwesTheMarket();
        ratesOfAStock();
        owedTheMarketButNotPaid();
        theSecondAccount();
        optionsOfWhoIsDown();
        squeezeInAnotherStock();
        otherWaysOfWhichBargains();
        end("NotTheFirstTest");
    }
}
