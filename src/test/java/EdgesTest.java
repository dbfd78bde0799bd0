/**
 * The sentences of the document that name an edge, one after the other: what just fits is taken, what just
 * doesn't is left, and no sum wraps but those of an E. (RefusalsTest has the refusals.)
 */
public final class EdgesTest extends Bench {

    // ---- 1: DAYS, MEN, STOCKS

    private static void daysAndAccounts() {
        AccountDay x = new AccountDay();
        due(1, "the open DAY is 0 at first", x.count(0), 0);
        int[][] told = {{1, 0, 1}, {13, 0, 13}, {14, 1, 0}, {27, 1, 13}, {28, 2, 0}, {699, 49, 13}, {700, 50, 0}};
        for (int[] t : told) {
            toDay(x, t[0]);
            due(36, "the ACCOUNT of DAY " + t[0], x.count(2), t[1]);
            due(36, "the place of DAY " + t[0], x.count(1), t[2]);
        }
    }

    private static void theLastDayThatCanBeClosed() {
        AccountDay x = new AccountDay();
        toDay(x, 672);
        due(26, "28 DAYS up to 700", x.run(28), 0);
        due(36, "700 is open", x.count(0), 700);
        x = new AccountDay();
        toDay(x, 699);
        due(26, "699 closes", x.run(1), 0);
        due(26, "700 doesn't", x.run(1), FULL);
    }

    private static void aNewObject() {
        AccountDay x = new AccountDay();
        due(1, "no MEN", x.look(0, 0), BEYOND);
        due(1, "no STOCKS", x.made(0), BEYOND);
        due(1, "no BARGAINS", x.of(0, 7), BEYOND);
        due(1, "no OPTIONS", x.optionOf(0, 6), BEYOND);
        due(1, "THE TAPE is empty", x.wipe(), 0);
        due(1, "no NAMES were", x.pass(0, 0), MISSING);
        due(1, "THE ROW is missing", x.copy(0, 0, 0), MISSING);
        x.stock();
        for (int key = 0; key < 6; key++) due(1, "no RULES", x.why(key, 0), NONE);
    }

    private static void menAtTheEdges() {
        AccountDay x = new AccountDay();
        due(2, "the least COIN and PACE", x.man(0, 0), 0);
        due(8, "the least COIN", x.coin(0, 0), 0);
        due(7, "the least PACE", x.look(0, 1), 0);
        due(2, "the most COIN and PACE", x.man(100000000, 99), 1);
        due(8, "the most COIN", x.coin(1, 0), 100000000);
        due(7, "the most PACE", x.look(1, 1), 99);
        x.man(-1, 0);
        due(2, "a refused one takes no number", x.man(1, 1), 2);
        for (int m = 3; m < 12; m++) due(2, "as they come", x.man(1, 1), m);
        due(2, "12 at most", x.man(1, 1), FULL);
        due(36, "12 MEN", x.count(3), 12);
    }

    private static void stocksAtTheEdges() {
        AccountDay x = exchange(12, 0, 0, 0);
        for (int s = 0; s < 5; s++) {
            due(3, "as they come", x.stock(), s);
            due(10, "MADE is 0 at first", x.made(s), 0);
            due(9, "PRICE ASKED is 0 at first", x.has(11, s, 3), 0);
            due(9, "HOLD is 0 at first", x.has(11, s, 0), 0);
        }
        due(3, "5 at most", x.stock(), FULL);
        due(36, "5 STOCKS", x.count(4), 5);
    }

    private static void holdAndCoinAddUp() {
        AccountDay x = exchange(12, 0, 0, 5);
        due(4, "no SHARES", x.hold(11, 4, 0), 0);
        due(4, "9999 SHARES", x.hold(11, 4, 9999), 9999);
        for (int i = 2; i <= 300; i++) x.hold(11, 4, 9999);
        due(4, "more and more", x.hold(11, 4, 0), 2999700);
        due(9, "of no other STOCK", x.has(11, 3, 0), 0);
        due(9, "of no other MAN", x.has(10, 4, 0), 0);
        x.dividend(4, 0, 999);
        x.run(1);
        due(26, "HOLD times PENCE is above an int", x.coin(11, 0), 2996700300L);
        x = exchange(12, 100000000, 0, 1);
        due(5, "no COIN", x.lend(11, 0), 1);
        for (int i = 0; i < 30; i++) due(5, "100000000", x.lend(11, 100000000), 1);
        due(5, "COIN is above an int", x.coin(11, 0), 3100000000L);
        due(5, "of no other MAN", x.coin(10, 0), 100000000);
    }

    private static void asksAtTheEdges() {
        AccountDay x = exchange(12, 0, 0, 5);
        due(6, "0 was before", x.asks(11, 4, 9999), 0);
        due(6, "9999 was before", x.asks(11, 4, 0), 9999);
        due(6, "0 again", x.asks(11, 4, 7), 0);
        x.asks(11, 4, 10000);
        due(6, "a refused one isn't asked", x.asks(11, 4, 8), 7);
        due(9, "it is asked", x.has(11, 4, 3), 8);
        due(9, "of no other STOCK", x.has(11, 3, 3), 0);
        due(9, "by no other MAN", x.has(10, 4, 3), 0);
        x = settledOnce();
        due(6, "one who is DOWN may ask", x.asks(3, 0, 5), 0);
    }

    // ---- 2: BARGAINS, to PUT OFF, OPTIONS

    private static void bargainsAtTheEdges() {
        AccountDay x = exchange(12, 0, 0, 5);
        due(11, "the least", x.bargain(1, 0, 1, 1), 0);
        due(11, "the most", x.bargain(1110, 4, 99, 9999), 1);
        int[] least = {0, 1, 0, 1, 1, 0, 0, OPEN, NONE, NONE, 0};
        int[] most = {11, 10, 4, 99, 9999, 0, 0, OPEN, NONE, NONE, 0};
        for (int what = 0; what < 11; what++) {
            due(14, "the least, " + what, x.of(0, what), least[what]);
            due(14, "the most, " + what, x.of(1, what), most[what]);
        }
        x.bargain(1, 0, 0, 1);
        due(11, "a refused one takes no number", x.bargain(1, 0, 1, 1), 2);
        for (int b = 3; b < 60; b++) due(11, "as they come", x.bargain(1, 0, 1, 1), b);
        due(11, "60 at most", x.bargain(1, 0, 1, 1), FULL);
        due(14, "59 is there", x.of(59, 7), OPEN);
    }

    private static void theLeastNumberThatIsFree() {
        AccountDay x = exchange(3, 0, 0, 1);
        for (int b = 0; b < 60; b++) x.bargain(1, 0, 1, 1);
        x.run(2);
        due(13, "clear 59", x.clear(59), VOID);
        due(13, "clear 5", x.clear(5), VOID);
        due(13, "clear 2", x.clear(2), VOID);
        due(11, "the least first", x.bargain(2, 0, 3, 4), 2);
        due(11, "then the next", x.bargain(2, 0, 3, 4), 5);
        due(11, "then the last", x.bargain(2, 0, 3, 4), 59);
        due(11, "then none", x.bargain(2, 0, 3, 4), FULL);
        int[] told = {0, 2, 0, 3, 4, 2, 0, OPEN, NONE, NONE, 0};
        for (int what = 0; what < 11; what++) due(14, "nothing of the old one", x.of(5, what), told[what]);
        due(14, "others stay until they are cleared", x.of(4, 7), VOID);
    }

    private static void theAccountByThePlace() {
        AccountDay x = exchange(2, 0, 0, 1);
        for (int day = 0; day < 28; day++) {
            int b = x.bargain(1, 0, 1, 1);
            due(11, "made on DAY " + day, x.of(b, 6), day < 10 ? 0 : day < 24 ? 1 : 2);
            due(14, "its DAY", x.of(b, 5), day);
            x.run(1);
        }
        toDay(x, 700);
        due(14, "on DAY 700", x.of(x.bargain(1, 0, 1, 1), 6), 50);
    }

    private static void marksAreKeptByDay() {
        AccountDay x = exchange(3, 0, 0, 1);
        int b = x.bargain(1, 0, 1, 1);
        due(12, "by its SELLER", x.mark(b, 0), 0);
        x.run(1);
        due(14, "his DAY", x.of(b, 8), 0);
        due(14, "not yet", x.of(b, 9), NONE);
        due(12, "it STANDS as soon as both did", x.mark(b, 1), 1);
        due(14, "STANDS", x.of(b, 7), STANDS);
        due(14, "the BUYER's DAY", x.of(b, 9), 1);
        due(14, "the SELLER's DAY stays", x.of(b, 8), 0);
        int other = x.bargain(1, 0, 1, 1);
        due(12, "by its BUYER first", x.mark(other, 1), 0);
        due(12, "then its SELLER", x.mark(other, 0), 1);
    }

    private static void clearTellsTheState() {
        AccountDay x = settledOnce();
        due(13, "SETTLED", x.clear(0), SETTLED);
        due(13, "VOID", x.clear(2), VOID);
        due(36, "one SETTLED is left", x.count(7), 1);
        due(36, "one VOID is left", x.count(8), 1);
    }

    private static void lookCountsOpenOrStanding() {
        AccountDay x = exchange(3, 1000, 0, 1);
        due(7, "none", x.look(0, 3), 0);
        for (int b = 0; b < 60; b++) x.bargain(b % 2 == 0 ? 1 : 100, 0, 1, 1);
        due(7, "OPEN, as SELLER and as BUYER", x.look(0, 3), 60);
        due(7, "of another", x.look(2, 3), 0);
        x.mark(0, 0);
        x.mark(0, 1);
        due(7, "that STANDS, too", x.look(0, 3), 60);
        x.run(2);
        due(7, "not VOID ones", x.look(0, 3), 1);
        x.run(11);
        due(7, "nor SETTLED ones", x.look(0, 3), 0);
    }

    private static void netsOfThisAccountAndTheNext() {
        AccountDay x = exchange(3, 9999, 0, 2);
        stands(x, 1, 0, 99, 1);
        stands(x, 201, 0, 1, 1);
        stands(x, 102, 0, 30, 1);
        stands(x, 1, 1, 5, 1);
        x.bargain(1, 0, 50, 1);
        due(9, "bought less sold", x.has(1, 0, 1), 70);
        due(9, "sold", x.has(0, 0, 1), -99);
        due(9, "none in the next", x.has(1, 0, 2), 0);
        due(9, "of the other STOCK", x.has(1, 1, 1), 5);
        x.run(10);
        stands(x, 1, 0, 7, 1);
        due(9, "in the next", x.has(1, 0, 2), 7);
        due(9, "this one still", x.has(1, 0, 1), 70);
        x.run(3);
        due(9, "SETTLED ones not", x.has(1, 0, 1), 0);
        x.run(1);
        due(9, "the next one is this one", x.has(1, 0, 1), 7);
    }

    private static void knewAtTheEdges() {
        AccountDay x = exchange(3, 1000, 0, 1);
        int b = x.bargain(1, 0, 7, 1);
        x.mark(b, 1);
        x.run(1);
        x.mark(b, 0);
        due(15, "DAY 0", x.knew(1, 0, 0, 0), 0);
        due(15, "the open DAY", x.knew(1, 0, 0, 1), 7);
        due(15, "the SELLER", x.knew(0, 0, 0, 1), -7);
        due(15, "neither", x.knew(2, 0, 0, 1), 0);
        due(15, "another ACCOUNT", x.knew(1, 0, 1, 1), 0);
        due(15, "an ACCOUNT far off", x.knew(1, 0, MOST, 1), 0);
        due(15, "none of it refused", x.status(NO) + x.status(BEYOND), 0);
        x.bargain(1, 0, 50, 1);
        due(15, "not one that is OPEN", x.knew(1, 0, 0, 1), 7);
        rule(x, "good 1");
        x.run(1);
        due(15, "one by the RULE good: not ahead of that DAY", x.knew(1, 0, 0, 1), 7);
        x.run(1);
        due(15, "from that DAY on", x.knew(1, 0, 0, 2), 57);
        x.run(10);
        due(15, "not SETTLED ones", x.knew(1, 0, 0, 2), 0);
        due(15, "of one who marked it later, DAY 0", voidedOnceKnown(0), 4);
        due(15, "not VOID ones", voidedOnceKnown(13), 0);
    }

    /** What was known on DAY 10 (for the next ACCOUNT) of a BARGAIN that is VOID on DAY 13 since 1 is DOWN. */
    private static int voidedOnceKnown(int day) {
        AccountDay x = exchange(3, 0, 0, 1);
        stands(x, 1, 0, 1, 50);
        x.hold(0, 0, 1);
        x.run(10);
        stands(x, 201, 0, 4, 50);
        toDay(x, Math.max(day, 10));
        return x.knew(1, 0, 1, 10);
    }

    private static int putOffPrice(int made, String rate) {
        AccountDay x = exchange(2, 0, 0, 1);
        stands(x, 1, 0, 1, made);
        x.run(10);
        if (!rate.isEmpty()) rule(x, "rate " + rate);
        return x.of(x.putOff(1, 0, 1), 4);
    }

    private static void thePriceToPutOff() {
        due(16, "without a rate", putOffPrice(200, ""), 200);
        due(16, "the quotient is cut", putOffPrice(200, "99"), 201);
        due(16, "a whole one", putOffPrice(200, "50"), 201);
        due(16, "less than one", putOffPrice(200, "49"), 200);
        due(16, "below 0, cut towards 0", putOffPrice(200, "-99"), 199);
        due(16, "below 0, less than one", putOffPrice(200, "-49"), 200);
        due(16, "2", putOffPrice(200, "-9949"), 2);
        due(16, "1", putOffPrice(200, "-9950"), 1);
        due(16, "1 at least, not 0", putOffPrice(200, "-10000"), 1);
        due(16, "1 at least, not below 0", putOffPrice(200, "-20000"), 1);
        due(16, "9998", putOffPrice(200, "97980*5"), 9998);
        due(16, "9999", putOffPrice(200, "97990*5"), 9999);
        due(16, "9999 at most", putOffPrice(200, "98000*5"), 9999);
        due(16, "the product doesn't wrap", putOffPrice(200, "99999*9999"), 9999);
        due(16, "nor below 0", putOffPrice(200, "-99999*9999"), 1);
        due(16, "the least MADE", putOffPrice(1, ""), 1);
        due(16, "the most MADE", putOffPrice(9999, ""), 9999);
        due(16, "the most MADE and more", putOffPrice(9999, "2"), 9999);
        due(16, "the E wraps", putOffPrice(200, "65536*65536+50"), 201);
        due(16, "by 10000, not by less", putOffPrice(200, "49999"), 1199);
        due(16, "nor by more", putOffPrice(200, "50000"), 1200);
    }

    private static void putOffAtTheEdges() {
        AccountDay x = madeUp(1);
        due(16, "one SHARE", x.of(x.putOff(1, 0, 1), 3), 1);
        due(16, "99 SHARES", x.of(x.putOff(302, 0, 99), 3), 99);
        x = madeUp(58);
        due(16, "two are free", x.putOff(1, 0, 1), 59);
        due(16, "the first of them", x.of(58, 6), 0);
        due(16, "the second", x.of(59, 6), 1);
        x = exchange(2, 1000, 0, 1);
        for (int b = 0; b < 5; b++) if (b % 2 == 0) stands(x, 1, 0, 1, 9); else x.bargain(1, 0, 1, 9);
        x.run(10);
        x.clear(3);
        x.clear(1);
        due(16, "the least two that are free", x.putOff(100, 0, 8), 3);
        due(16, "he sells for this ACCOUNT", x.of(1, 0) * 10 + x.of(1, 6), 10);
        due(16, "he buys for the next", x.of(3, 1) * 10 + x.of(3, 6), 11);
        due(9, "his NET in this one", x.has(1, 0, 1), 3 - 8);
        due(9, "in the next", x.has(1, 0, 2), 8);
        x = exchange(2, 1000, 0, 1);
        x.bargain(1, 0, 1, 9);
        stands(x, 1, 0, 1, 9);
        x.run(10);
        x.clear(0);
        due(16, "0 is free", x.putOff(100, 0, 8), 2);
        due(16, "it is the first", x.of(0, 6), 0);
    }

    private static void aNumberThatWasPutOff() {
        AccountDay x = madeUp(1);
        x.lend(1, 9999);
        x.putOff(1, 0, 1);
        x.run(3);
        due(13, "SETTLED", x.clear(1), SETTLED);
        due(11, "its number again", x.bargain(1, 0, 1, 1), 1);
        due(14, "not made to PUT OFF", x.of(1, 10), 0);
        due(14, "the other one was", x.of(2, 10), 1);
    }

    private static void optionsAtTheEdges() {
        AccountDay x = exchange(12, 0, 0, 5);
        due(17, "the least, without COIN", x.option(1, 0, 10001, 10000), 0);
        int[] least = {0, 1, 0, 1, 1, 0, 0};
        for (int what = 0; what < 7; what++) due(19, "the least, " + what, x.optionOf(0, what), least[what]);
        x.lend(11, 9999);
        due(17, "the most, for all his COIN", x.option(1110, 4, 999999, 409999), 1);
        int[] most = {11, 10, 4, 99, 9999, 39, 0};
        for (int what = 0; what < 7; what++) due(19, "the most, " + what, x.optionOf(1, what), most[what]);
        due(17, "all of it is paid", x.coin(11, 0), 0);
        due(17, "at once", x.coin(10, 0), 9999);
        due(17, "a coin too little", x.option(1110, 4, 10001, 10001), NO);
        due(17, "a refused one takes no number", x.option(1011, 4, 10001, 19999), 2);
        for (int o = 3; o < 20; o++) due(17, "as they come", x.option(1, 0, 10001, 10000), o);
        due(17, "20 at most", x.option(1, 0, 10001, 10000), FULL);
        due(36, "20 OPTIONS", x.count(9), 20);
        x.run(1);
        due(36, "those that are OVER, too", x.count(9), 20);
        due(17, "no room by those that are OVER", x.option(1, 0, 10001, 10000), FULL);
    }

    private static void theLastDayOfAnOption() {
        for (int days = 1; days <= 40; days += 39) {
            AccountDay x = exchange(2, 0, 0, 1);
            x.run(3);
            x.option(1, 0, 10001, 10000 * days);
            x.option(1, 0, 10001, 10000 * days);
            toDay(x, 3 + days - 1);
            due(19, days + " DAYS: OPEN on the last", x.optionOf(0, 6), 0);
            due(18, "DECLARED on it", x.declare(0), 0);
            x.run(1);
            due(19, "OVER then", x.optionOf(1, 6), 2);
            due(19, "DECLARED it stays", x.optionOf(0, 6), 1);
        }
    }

    private static void declaredIntoAnAccount() {
        AccountDay x = exchange(12, 0, 0, 5);
        x.option(1011, 4, 120034, 200000);
        x.option(1011, 4, 120034, 200000);
        x.run(9);
        due(18, "at place 9", x.declare(1), 0);
        int[] told = {11, 10, 4, 12, 34, 9, 0, STANDS, 9, 9, 0};
        for (int what = 0; what < 11; what++) due(18, "at place 9, " + what, x.of(0, what), told[what]);
        x.run(1);
        due(18, "at place 10", x.of(x.declare(0), 6), 1);
        x = exchange(2, 0, 0, 1);
        x.option(1, 0, 10001, 10000);
        for (int b = 0; b < 59; b++) x.bargain(1, 0, 1, 1);
        due(18, "one is free", x.declare(0), 59);
        x = exchange(2, 0, 0, 1);
        x.option(1, 0, 10001, 400000);
        for (int b = 0; b < 3; b++) x.bargain(1, 0, 1, 1);
        x.run(2);
        x.clear(1);
        due(18, "the least that is free", x.declare(0), 1);
    }

    // ---- 3: how a DAY closes

    private static void goodAtTheEdges() {
        int[][] told = {{0, VOID}, {1, STANDS}, {2, STANDS}, {-1, STANDS}};
        for (int[] t : told) {
            AccountDay x = exchange(2, 0, 0, 1);
            rule(x, "good " + t[0]);
            x.bargain(1, 0, 1, 1);
            x.run(1);
            due(26, "made on d", x.of(0, 7), OPEN);
            x.run(1);
            due(26, "made ahead of d, good " + t[0], x.of(0, 7), t[1]);
            due(26, "the SELLER's mark", x.of(0, 8), t[1] == STANDS ? 1 : NONE);
            due(26, "the BUYER's mark", x.of(0, 9), t[1] == STANDS ? 1 : NONE);
        }
        AccountDay x = exchange(2, 0, 0, 1);
        x.bargain(1, 0, 1, 1);
        x.mark(0, 0);
        x.run(2);
        due(26, "without a RULE it is VOID", x.of(0, 7), VOID);
        due(26, "his mark stays", x.of(0, 8), 0);
        due(26, "the other had none", x.of(0, 9), NONE);
    }

    private static void goodIsAskedOfEach() {
        AccountDay x = exchange(3, 0, 0, 2);
        rule(x, "good seller=2 and buyer=1 and shares=3 and price=4 and stock=1 and marks=1 and day=1");
        x.bargain(201, 1, 3, 4);
        x.bargain(201, 1, 3, 4);
        x.mark(1, 2);
        x.bargain(201, 0, 3, 4);
        x.mark(2, 2);
        x.run(2);
        due(26, "not marked", x.of(0, 7), VOID);
        due(26, "as the RULE wants it", x.of(1, 7), STANDS);
        due(26, "another STOCK", x.of(2, 7), VOID);
    }

    /** 0 sells 4 SHARES to 1; what he owes more by a DIVIDEND of 5 on a DAY. */
    private static AccountDay withDividend(int madeOn, int dividendOn) {
        AccountDay x = exchange(3, 9999, 0, 2);
        toDay(x, madeOn);
        stands(x, 1, 0, 4, 10);
        x.dividend(0, dividendOn, 5);
        return x;
    }

    private static void dividendsAtTheEdges() {
        AccountDay x = withDividend(2, 2);
        x.run(1);
        due(26, "made on d: no EXTRA", x.coin(0, 2), 0);
        due(36, "it waits no more", x.count(15), 0);
        x = withDividend(1, 2);
        x.run(1);
        due(26, "not ahead of d", x.coin(0, 2), 0);
        due(36, "it waits", x.count(15), 1);
        x.run(1);
        due(26, "made ahead of d", x.coin(0, 2), 20);
        due(26, "the BUYER owes nothing", x.coin(1, 2), 0);
        due(26, "once alone", x.run(1) + x.coin(0, 2), 20);
        x = withDividend(11, 11);
        x.dividend(0, 12, 6);
        x.dividend(1, 12, 7);
        x.run(1);
        due(26, "for the next ACCOUNT, on its own DAY", x.coin(0, 2), 0);
        due(26, "at place 12 it is paid at once", x.run(1) + x.coin(0, 2), 0);
        due(29, "by the SETTLING", x.settled(0, 0), 24);
        x.dividend(0, 13, 9);
        x.run(1);
        due(26, "at place 13 it waits for the next SETTLING", x.coin(0, 2), 36);
        x.run(12);
        due(26, "till then", x.coin(0, 2), 36);
        x.run(1);
        due(26, "no longer", x.coin(0, 2), 0);
    }

    private static void extraOfTheFirstAndTheLast() {
        AccountDay x = exchange(12, 9999, 0, 1);
        x.hold(11, 0, 4);
        x.hold(0, 0, 4);
        stands(x, 1100, 0, 4, 10);
        stands(x, 11, 0, 4, 10);
        stands(x, 1100, 0, 2, 10);
        x.run(1);
        x.dividend(0, 1, 5);
        x.run(1);
        due(8, "11 owes 0", x.coin(11, 2), 30);
        due(8, "0 owes 11", x.coin(0, 2), 20);
        x.run(11);
        due(29, "the rest, and 20 for the SHARES the other way", x.settled(11, 0), 0);
        due(29, "the rest of that", x.settled(0, 0), 20 - 10);
    }

    private static void dividendsOfHolders() {
        AccountDay x = settledOnce();
        x.hold(0, 1, 1);
        x.hold(1, 1, 20);
        long hisCoin = x.coin(0, 0);
        long downCoin = x.coin(3, 0);
        x.dividend(1, 13, 1);
        due(20, "in all", x.dividend(0, 13, 999), 2);
        x.run(1);
        due(26, "one SHARE, one penny", x.coin(0, 0), hisCoin + 1);
        due(9, "who is DOWN has HOLD", x.has(3, 0, 0), 9);
        due(26, "and gets nothing", x.coin(3, 0), downCoin);
    }

    private static void goodStandsAheadOfDividends() {
        AccountDay x = exchange(2, 0, 0, 1);
        rule(x, "good 1");
        x.bargain(1, 0, 4, 10);
        x.dividend(0, 0, 9);
        x.dividend(0, 1, 5);
        x.run(2);
        due(26, "(1) is ahead of (2)", x.coin(0, 2), 20);
        x = exchange(2, 0, 0, 1);
        x.bargain(1, 0, 4, 10);
        x.dividend(0, 1, 5);
        x.run(2);
        due(26, "VOID ones owe nothing", x.coin(0, 2), 0);
    }

    private static void divAtTheEdges() {
        int[][] told = {{0, 0}, {1, 20}, {-1, 20}, {7, 20}};
        for (int[] t : told) {
            AccountDay x = withDividend(0, 1);
            rule(x, "div " + t[0]);
            x.run(2);
            due(26, "div " + t[0], x.coin(0, 2), t[1]);
        }
        AccountDay x = withDividend(0, 1);
        rule(x, "div buyer=1 and seller=0 and shares=4 and price=10 and marks=3");
        x.run(2);
        due(26, "div asks of each BARGAIN", x.coin(0, 2), 20);
    }

    private static void dividendsThatWait() {
        AccountDay x = exchange(1, 0, 0, 5);
        x.hold(0, 4, 1);
        x.run(1);
        due(20, "on the open DAY", x.dividend(4, 1, 1), 1);
        due(20, "on the last", x.dividend(4, 699, 999), 2);
        for (int i = 3; i <= 10; i++) due(20, "10 at most", x.dividend(i % 5, 698, 1), i);
        due(20, "10 wait", x.dividend(4, 1, 1), FULL);
        x.run(1);
        due(20, "one waits no more", x.coin(0, 0), 1);
        due(36, "9 wait", x.count(15), 9);
        due(20, "there is room again", x.dividend(0, 698, 1), 10);
        toDay(x, 699);
        due(36, "the last one waits", x.count(15), 1);
        long before = x.coin(0, 0);
        x.run(1);
        due(20, "paid when 699 closes", x.coin(0, 0), before + 999);
        due(36, "none waits", x.count(15), 0);
    }

    private static void makingUpAtItsPlace() {
        AccountDay x = exchange(2, 9999, 0, 2);
        stands(x, 1, 0, 1, 30);
        x.run(9);
        due(10, "place 9 is open", x.made(0), 0);
        x.run(1);
        due(10, "it has closed", x.made(0), 30);
        due(10, "without one it stays", x.made(1), 0);
        stands(x, 1, 0, 1, 40);
        x.run(13);
        due(10, "for the next ACCOUNT: not yet", x.made(0), 30);
        x.run(1);
        due(10, "now", x.made(0), 40);
        x.run(14);
        due(10, "without one it stays as it was", x.made(0), 40);
    }

    private static void whichOneMakesUp() {
        AccountDay x = exchange(2, 0, 0, 1);
        x.bargain(1, 0, 1, 9);
        x.run(2);
        stands(x, 1, 0, 1, 31);
        x.clear(0);
        stands(x, 1, 0, 1, 32);
        x.run(8);
        due(10, "of like DAYS that of the greatest number", x.made(0), 31);
        x = exchange(2, 0, 0, 1);
        x.bargain(1, 0, 1, 9);
        x.run(2);
        stands(x, 1, 0, 1, 31);
        x.run(1);
        x.clear(0);
        stands(x, 1, 0, 1, 32);
        x.run(7);
        due(10, "made last, of a lesser number", x.made(0), 32);
        x = exchange(2, 0, 0, 1);
        stands(x, 1, 0, 1, 31);
        x.bargain(1, 0, 1, 33);
        x.run(10);
        due(10, "VOID ones don't count", x.made(0), 31);
        x = exchange(2, 0, 0, 1);
        stands(x, 1, 0, 1, 31);
        x.run(9);
        x.bargain(1, 0, 1, 33);
        x.run(1);
        due(10, "OPEN ones don't count", x.made(0), 31);
        x = exchange(2, 0, 0, 1);
        rule(x, "good 1");
        x.run(8);
        x.bargain(1, 0, 1, 33);
        x.run(2);
        due(10, "(1) is ahead of (3)", x.made(0), 33);
    }

    private static void putOffMakesNothingUp() {
        AccountDay x = exchange(2, 9999, 0, 1);
        stands(x, 1, 0, 1, 50);
        x.run(10);
        rule(x, "rate 10000");
        due(16, "at 100", x.of(x.putOff(1, 0, 1), 4), 100);
        x.run(14);
        due(10, "made to PUT OFF", x.made(0), 50);
    }

    private static void namesAndSettlingAtTheirPlaces() {
        AccountDay x = exchange(2, 9999, 0, 1);
        int b = stands(x, 1, 0, 1, 50);
        x.run(11);
        due(27, "place 11 is open", x.pass(0, 0), MISSING);
        x.run(1);
        due(27, "NAMES", x.pass(0, 0), 0);
        due(29, "place 12 is open", x.settled(0, 2), 0);
        due(44, "no SETTLING yet", x.status(MISSING), 2);
        due(14, "it STANDS still", x.of(b, 7), STANDS);
        x.run(1);
        due(29, "SETTLING", x.settled(0, 2), 50);
        due(14, "SETTLED", x.of(b, 7), SETTLED);
    }

    private static void theNextAccountIsNotSettled() {
        AccountDay x = exchange(2, 9999, 0, 1);
        stands(x, 1, 0, 1, 50);
        x.run(10);
        int next = stands(x, 1, 0, 7, 50);
        int open = x.bargain(1, 0, 1, 50);
        x.run(1);
        int late = x.bargain(1, 0, 1, 50);
        x.mark(late, 0);
        x.run(1);
        due(36, "one DELIVERY", x.count(14), 1);
        due(28, "of this ACCOUNT's SHARES", x.delivery(0, 3), 1);
        x.run(1);
        due(14, "the next one STANDS", x.of(next, 7), STANDS);
        due(14, "it went its own way", x.of(open, 7), VOID);
        due(14, "and this one", x.of(late, 7), VOID);
        due(29, "DUES of this one alone", x.settled(1, 0), 50);
    }

    // ---- 4: NAMES

    private static void netsAtTheEdges() {
        AccountDay x = exchange(4, 99999, 10, 1);
        stands(x, 1, 0, 5, 10);
        stands(x, 100, 0, 5, 10);
        x.run(12);
        due(36, "all NETS are 0: no PASSES", x.count(13), 0);
        due(36, "nor DELIVERIES", x.count(14), 0);
        x = exchange(4, 99999, 10, 1);
        stands(x, 1, 0, 5, 10);
        stands(x, 102, 0, 5, 10);
        stands(x, 203, 0, 4, 10);
        x.run(12);
        // NETS -5, 0, 1, 4
        int[][] passes = {{0, 2, 1, 2, 1, 10, NONE}, {0, 3, 2, 3, 4, 10, NONE}, {0, 1, 0, 2, 1, 20, NONE},
            {0, 2, 1, 3, 4, 20, NONE}, {0, 1, 0, 3, 4, 30, NONE}};
        seesPasses(x, passes);
        seesDeliveries(x, new int[][] {{0, 0, 2, 1, 20, NONE}, {0, 0, 3, 4, 30, NONE}});
    }

    /** 1 buys 3 of 0 and sells 8 to 2: he delivers 5 and passes 3 on; the TICKET is split once more at 2's BARGAINS. */
    private static void splitTickets() {
        AccountDay x = exchange(4, 99999, 99, 2);
        stands(x, 102, 1, 6, 10);
        stands(x, 1, 1, 3, 10);
        stands(x, 102, 1, 2, 10);
        x.run(12);
        int[][] passes = {{1, 2, 1, 2, 6, 99, NONE}, {1, 2, 1, 2, 2, 99, NONE}, {1, 1, 0, 2, 1, 198, 1}, {1, 1, 0, 2, 2, 198, 1}};
        seesPasses(x, passes);
        seesDeliveries(x, new int[][] {{1, 1, 2, 5, 99, NONE}, {1, 0, 2, 1, 198, 1}, {1, 0, 2, 2, 198, 1}});
    }

    private static void stockByStock() {
        AccountDay x = exchange(3, 99999, 0, 3);
        stands(x, 1, 2, 1, 10);
        stands(x, 102, 0, 2, 10);
        x.run(12);
        seesPasses(x, new int[][] {{0, 2, 1, 2, 2, 0, NONE}, {2, 1, 0, 1, 1, 0, NONE}});
        seesDeliveries(x, new int[][] {{0, 1, 2, 2, 0, NONE}, {2, 0, 1, 1, 0, NONE}});
    }

    /** In STOCK 1 all NETS are 0: its row is empty, and nothing of STOCK 0's TICKETS is passed on there. */
    private static void anEmptyRowBehindAnother() {
        AccountDay x = exchange(3, 99999, 4, 2);
        stands(x, 1, 0, 3, 10);
        stands(x, 1, 1, 5, 10);
        stands(x, 100, 1, 5, 10);
        x.run(12);
        seesPasses(x, new int[][] {{0, 1, 0, 1, 3, 4, NONE}});
        seesDeliveries(x, new int[][] {{0, 0, 1, 3, 4, NONE}});
    }

    /** 1's other BARGAINS as BUYER have lesser numbers, but are in another STOCK, VOID, or for the next ACCOUNT. */
    private static void leftOfWhichBargains() {
        AccountDay x = exchange(3, 99999, 0, 2);
        x.bargain(201, 0, 5, 10);
        x.bargain(201, 0, 5, 10);
        stands(x, 201, 1, 5, 10);
        stands(x, 1, 0, 3, 10);
        x.run(10);
        x.clear(0);
        due(11, "for the next", x.of(stands(x, 201, 0, 5, 10), 6), 1);
        x.run(2);
        due(14, "VOID", x.of(1, 7), VOID);
        seesPasses(x, new int[][] {{0, 1, 0, 1, 3, 0, NONE}, {1, 1, 2, 1, 5, 0, NONE}});
        seesDeliveries(x, new int[][] {{0, 0, 1, 3, 0, NONE}, {1, 2, 1, 5, 0, NONE}});
    }

    /** 0 sells to 1, 1 to 2, 2 to 3: PACES 0, 20, 30, 40; the HOUR is told. Who is LATE with each PASS. */
    private static void lateAt(String hour, int first, int second, int third) {
        AccountDay x = new AccountDay();
        for (int m = 0; m < 4; m++) x.man(99999, m == 0 ? 0 : 10 + 10 * m);
        x.stock();
        stands(x, 1, 0, 1, 10);
        stands(x, 102, 0, 1, 10);
        stands(x, 203, 0, 1, 10);
        if (!hour.isEmpty()) rule(x, "hour " + hour);
        x.run(12);
        due(27, "hour " + hour + ", at 40", x.pass(0, 6), first);
        due(27, "hour " + hour + ", at 70", x.pass(1, 6), second);
        due(27, "hour " + hour + ", at 90", x.pass(2, 6), third);
        due(28, "hour " + hour + ", at 90", x.delivery(0, 5), third);
    }

    private static void theHour() {
        lateAt("90", NONE, NONE, NONE);
        lateAt("89", NONE, NONE, 1);
        lateAt("70", NONE, NONE, 1);
        lateAt("69", NONE, 2, 2);
        lateAt("40", NONE, 2, 2);
        lateAt("39", 3, 3, 3);
        lateAt("0", 3, 3, 3);
        lateAt("-1", NONE, NONE, NONE);
        lateAt("65536*32768", NONE, NONE, NONE);
        lateAt("65536*32768-1", NONE, NONE, NONE);
        lateAt("", NONE, NONE, NONE);
        lateAt("89 if stock=0 and place=11", NONE, NONE, 1);
    }

    private static void theHourWithoutARule() {
        for (int over = 0; over < 2; over++) {
            AccountDay x = new AccountDay();
            x.man(99999, 0);
            x.man(99999, 60 + over);
            x.man(99999, 60);
            x.stock();
            stands(x, 1, 0, 1, 10);
            stands(x, 102, 0, 1, 10);
            x.run(12);
            due(27, "it is 120", x.pass(1, 6), over == 0 ? NONE : 1);
        }
    }

    /** 0 and 1 pass one SHARE's NAME around: 300 of the PASSES are noted, all are made. */
    private static void threeHundredPasses() {
        for (int rounds = 149; rounds <= 150; rounds++) {
            AccountDay x = exchange(4, 999999, 1, 2);
            for (int left = rounds; left > 0; left -= 99) {
                stands(x, 1, 0, Math.min(left, 99), 10);
                stands(x, 100, 0, Math.min(left, 99), 10);
            }
            stands(x, 201, 0, 1, 10);
            stands(x, 103, 0, 1, 10);
            // where all NETS are 0 nothing goes around
            stands(x, 1, 1, 9, 10);
            stands(x, 100, 1, 9, 10);
            x.run(12);
            // 3 passes it to 1, it goes around between 1 and 0, then 1 passes it to 2
            int all = 2 + 2 * rounds;
            due(36, "all are counted", x.count(13), all);
            due(27, "the last that is noted", x.pass(299, 5), 300);
            due(27, "the first that isn't", x.pass(300, 5), BEYOND);
            due(28, "all are made", x.delivery(0, 4), all);
        }
    }

    // ---- 5: SETTLING

    /** 0 sells 10 to 1 at a PRICE, 1 sells them to 2 at another, which is MADE. */
    private static AccountDay difference(int price, int made) {
        AccountDay x = exchange(3, 9999, 0, 1);
        x.hold(0, 0, 10);
        stands(x, 1, 0, 10, price);
        stands(x, 102, 0, 10, made);
        x.run(13);
        return x;
    }

    private static void differences() {
        AccountDay x = difference(80, 60);
        due(29, "PRICE above MADE: the BUYER owes", x.settled(1, 0), 200);
        due(29, "the SELLER doesn't", x.settled(0, 0), 0);
        due(29, "the SELLER gets it and the SHARES' price", x.settled(0, 2), 800);
        x = difference(60, 80);
        due(29, "PRICE below MADE: the other way", x.settled(0, 0), 200);
        due(29, "the BUYER owes nothing", x.settled(1, 0), 0);
        due(29, "he gets it", x.settled(1, 2), 200);
        x = difference(60, 60);
        due(29, "PRICE is MADE: neither", x.settled(0, 0) + x.settled(1, 0), 0);
        x = difference(1, 9999);
        due(29, "the most", x.settled(0, 0), 99980);
        due(26, "he can't", x.look(0, 0), 0);
    }

    /** 0 sells 2 to 1 and 2 to 2 at MADE 10 and has so many; 0 has COIN enough. */
    private static AccountDay boughtIn(int had, String in) {
        AccountDay x = exchange(3, 9999, 0, 1);
        x.hold(0, 0, had);
        stands(x, 1, 0, 2, 10);
        stands(x, 2, 0, 2, 10);
        if (!in.isEmpty()) rule(x, "in " + in);
        x.run(13);
        return x;
    }

    private static void seesBoughtIn(int had, String in, int shares, int owed) {
        AccountDay x = boughtIn(had, in);
        due(29, had + " in HOLD: BOUGHT IN", x.settled(0, 4), shares);
        due(29, had + " in HOLD, in " + in + ": owes THE MARKET", x.settled(0, 3), owed);
        due(29, "his DUES", x.settled(0, 0), owed);
        due(29, "he paid them", x.settled(0, 1), owed);
        due(29, "he got", x.settled(0, 2), 40);
        due(9, "HOLD then", x.has(0, 0, 0), Math.max(had - 4, 0));
        due(9, "the NAME gets all", x.has(1, 0, 0) + x.has(2, 0, 0), 4);
    }

    private static void whatIsBoughtIn() {
        seesBoughtIn(5, "", 0, 0);
        seesBoughtIn(4, "", 0, 0);
        seesBoughtIn(3, "", 1, 10);
        seesBoughtIn(2, "", 2, 20);
        seesBoughtIn(1, "", 3, 30);
        seesBoughtIn(0, "", 4, 40);
        seesBoughtIn(3, "39", 1, 13);
        seesBoughtIn(1, "36", 3, 27 + 13);
        seesBoughtIn(3, "0", 1, 10);
        seesBoughtIn(3, "-1", 1, 10);
        seesBoughtIn(3, "-1000", 1, 10);
        seesBoughtIn(3, "9", 1, 10);
        seesBoughtIn(3, "10", 1, 11);
        seesBoughtIn(3, "999", 1, 109);
        seesBoughtIn(3, "1000", 1, 110);
        seesBoughtIn(3, "1001", 1, 110);
        seesBoughtIn(3, "99999*99999", 1, 110);
        seesBoughtIn(3, "65536*32768", 1, 10);
        seesBoughtIn(3, "stock+place*10", 1, 22);
    }

    private static void holdOfEachStock() {
        AccountDay x = exchange(3, 9999, 0, 2);
        x.hold(0, 0, 2);
        x.hold(0, 1, 1);
        stands(x, 1, 0, 2, 10);
        stands(x, 1, 1, 2, 10);
        x.run(13);
        due(29, "by STOCKS", x.settled(0, 4), 1);
    }

    /** 0 sells 1 to 1, who sells it to 2, twice; 1 is LATE with both at MADE 10. */
    private static AccountDay lateAndSettled(String late) {
        AccountDay x = new AccountDay();
        x.man(9999, 0);
        x.man(9999, 30);
        x.man(9999, 0);
        x.stock();
        x.hold(0, 0, 2);
        for (int i = 0; i < 2; i++) {
            stands(x, 1, 0, 1, 10);
            stands(x, 102, 0, 1, 10);
        }
        rule(x, "hour 29");
        if (!late.isEmpty()) rule(x, "late " + late);
        x.run(13);
        return x;
    }

    private static void seesLate(String late, int owed) {
        AccountDay x = lateAndSettled(late);
        due(29, "late " + late + ": he owes", x.settled(1, 0), owed);
        due(29, "late " + late + ": the NAME gets", x.settled(2, 2), owed);
        due(29, "late " + late + ": who delivers, all the same", x.settled(0, 2), 20);
    }

    private static void whatIsOwedByWhoWasLate() {
        seesLate("", 0);
        seesLate("0", 0);
        seesLate("-1", 0);
        seesLate("9", 0);
        seesLate("10", 2);
        seesLate("19", 2);
        seesLate("1000", 200);
        seesLate("999", 198);
        seesLate("1001", 200);
        seesLate("99999*99999", 200);
        seesLate("65536*32768", 0);
        seesLate("place+stock+marks+8", 4);
    }

    /** 0 sells 10 to 1 at 50 in one STOCK, 1 sells 10 to 0 in another. */
    private static void ofEachTwoTheRest() {
        int[][] told = {{50, 0, 0}, {51, 10, 0}, {49, 0, 10}};
        for (int[] t : told) {
            AccountDay x = exchange(2, 9999, 0, 2);
            x.hold(0, 0, 10);
            x.hold(1, 1, 10);
            stands(x, 1, 0, 10, 50);
            stands(x, 100, 1, 10, t[0]);
            x.run(13);
            due(29, "at 50 and " + t[0] + ", 0 owes", x.settled(0, 0), t[1]);
            due(29, "at 50 and " + t[0] + ", 1 owes", x.settled(1, 0), t[2]);
        }
    }

    /** 1 buys for 500 of 0, who has the SHARES, with so much COIN. */
    private static AccountDay paying(int coin) {
        AccountDay x = exchange(3, 0, 0, 1);
        x.lend(1, coin);
        x.hold(0, 0, 10);
        stands(x, 1, 0, 10, 50);
        return x;
    }

    private static void coinAtTheEdges() {
        int[][] told = {{501, 500, 1, 1}, {500, 500, 1, 0}, {499, 499, 0, 0}, {1, 1, 0, 0}, {0, 0, 0, 0}};
        for (int[] t : told) {
            AccountDay x = paying(t[0]);
            due(26, t[0] + " COIN: became DOWN", x.run(13), 1 - t[2]);
            due(29, "paid", x.settled(1, 1), t[1]);
            due(7, "UP", x.look(1, 0), t[2]);
            due(7, "the DAY on which he was DOWN", x.look(1, 2), t[2] == 1 ? NONE : 12);
            due(8, "COIN left", x.coin(1, 0), t[3]);
            due(29, "got", x.settled(0, 2), t[1]);
            due(8, "COIN of who got it", x.coin(0, 0), t[1]);
            due(7, "who owes nothing and has nothing is UP", x.look(2, 0), 1);
            due(36, "MEN DOWN", x.count(12), 1 - t[2]);
        }
    }

    private static void allOfThemBecomeDown() {
        AccountDay x = exchange(12, 0, 0, 1);
        for (int m = 0; m < 12; m++) stands(x, 100 * m + (m + 1) % 12, 0, 1, m == 11 ? 5 : 9);
        // MADE 5: each BUYER but 0 owes 4 to the one before him; nobody has a coin
        due(26, "11 became DOWN", x.run(28), 11);
        due(26, "none anew", x.run(28), 0);
        due(36, "11 are DOWN", x.count(12), 11);
        due(24, "men that are UP", rule(x, "in men") == 0 ? x.says(3, 0) : NONE, 1);
        due(7, "0 is UP", x.look(0, 0), 1);
    }

    /** 3 pays 2, who has nothing and pays 1, who has nothing and pays 0: a round for each. */
    private static void paidByWhatWasPaid() {
        AccountDay x = exchange(4, 0, 0, 1);
        x.lend(3, 100);
        for (int m = 0; m < 3; m++) stands(x, 100 * m + m + 1, 0, 10, 40 - 10 * m);
        x.hold(0, 0, 10);
        // PRICES 40, 30, 20: MADE 20; 1 owes 0 200, 2 owes 1 100, 3 owes 0 200 for the SHARES
        due(26, "run", x.run(13), 3);
        due(29, "3 pays what he has", x.settled(3, 1), 100);
        due(29, "2 has nothing", x.settled(2, 1), 0);
        due(29, "1 got nothing", x.settled(1, 1), 0);
        x = exchange(3, 0, 0, 1);
        x.lend(2, 1000);
        stands(x, 1, 0, 10, 40);
        stands(x, 102, 0, 10, 90);
        stands(x, 2, 0, 1, 30);
        x.hold(0, 0, 11);
        // MADE 30: 1 owes 0 100, 2 owes 1 600, 2 owes 0 330
        due(26, "all pay", x.run(13), 0);
        due(29, "1 pays of what he got", x.settled(1, 1), 100);
        due(8, "the rest is his", x.coin(1, 0), 500);
    }

    /** 99 COIN go around, three rounds for each turn: MAN 0 has 33066 in the 1000th round, and no more in any. */
    private static void allIsPaidInTheLastRound() {
        for (int over = 0; over < 2; over++) {
            AccountDay x = exchange(5, 0, 0, 1);
            x.lend(0, 99);
            x.lend(4, 1);
            x.hold(3, 0, 1);
            stands(x, 1, 0, 99, 9999);
            stands(x, 102, 0, 99, 9999);
            stands(x, 200, 0, 99, 335 + over);
            stands(x, 304, 0, 1, 1);
            due(26, "how many become DOWN", x.run(13), 2 + over);
            due(29, "DUES of 0", x.settled(0, 0), 33066 + 99 * over);
            due(29, "what he paid", x.settled(0, 1), 33066);
            due(29, "what he got by then", x.settled(0, 2), 32967);
            due(29, "what 2 paid by then", x.settled(2, 1), 32967);
            due(8, "COIN of 2", x.coin(2, 0), 99);
            due(7, "whether 0 is UP", x.look(0, 0), 1 - over);
        }
    }

    private static void partsAreCut() {
        AccountDay x = exchange(4, 0, 0, 1);
        x.lend(3, 100);
        for (int m = 0; m < 3; m++) {
            x.hold(m, 0, 1);
            stands(x, 100 * m + 3, 0, 1, 70);
        }
        x.run(13);
        due(29, "100 * 70 / 210, three times", x.settled(3, 1), 99);
        due(8, "one is left", x.coin(3, 0), 1);
        due(29, "each gets", x.settled(2, 2), 33);
    }

    /** What a part is worked from is above an int by far. */
    private static void partsDoNotWrap() {
        AccountDay x = exchange(3, 0, 0, 1);
        x.lend(2, 50000000);
        for (int i = 0; i < 59; i++) stands(x, 100 * (i % 2) + 2, 0, 99, 9999);
        x.hold(0, 0, 9999);
        x.hold(1, 0, 9999);
        x.run(13);
        long dues = 59L * 99 * 9999;
        due(29, "DUES", x.settled(2, 0), dues);
        due(29, "to 0", x.settled(0, 2), 30L * 99 * 9999 * 50000000 / dues);
        due(29, "to 1", x.settled(1, 2), 29L * 99 * 9999 * 50000000 / dues);
    }

    private static void whatIsVoidByOneWhoIsDown() {
        AccountDay x = paying(499);
        x.run(10);
        int[][] next = {{201, 50}, {201, 51}, {201, 49}, {102, 50}, {102, 49}, {102, 51}, {2, 9}};
        for (int[] n : next) stands(x, n[0], 0, 3, n[1]);
        int open = x.bargain(201, 0, 3, 60);
        x.run(2);
        int latest = x.bargain(102, 0, 2, 20);
        due(8, "nothing LOST yet", x.coin(2, 1), 0);
        x.run(1);
        for (int b = 1; b < 7; b++) due(14, "VOID, " + b, x.of(b, 7), VOID);
        due(14, "not another's", x.of(7, 7), STANDS);
        due(14, "VOID by itself ahead of it", x.of(open, 7), VOID);
        due(14, "an OPEN one is VOID", x.of(latest, 7), VOID);
        // as SELLER 3 * 1, as BUYER 3 * 1 and 2 * 30
        due(8, "LOST, what is above 0", x.coin(2, 1), 3 + 3 + 60);
        due(8, "nobody else LOST", x.coin(0, 1) + x.coin(1, 1), 0);
        due(14, "the ACCOUNT's own is SETTLED", x.of(0, 7), SETTLED);
    }

    private static void manAndBargain0() {
        AccountDay x = exchange(3, 0, 0, 1);
        x.hold(1, 0, 1);
        x.bargain(1, 0, 1, 1);
        stands(x, 100, 0, 1, 50);
        x.option(2, 0, 10001, 400000);
        x.run(10);
        x.clear(0);
        due(11, "BARGAIN 0, for the next ACCOUNT", stands(x, 2, 0, 2, 20), 0);
        x.run(3);
        due(7, "MAN 0 is DOWN", x.look(0, 0), 0);
        due(14, "BARGAIN 0 is VOID", x.of(0, 7), VOID);
        due(8, "LOST by it", x.coin(2, 1), 2 * 30);
        due(19, "his OPTION is OVER", x.optionOf(0, 6), 2);
    }

    private static void lostAddsUp() {
        AccountDay x = exchange(4, 0, 0, 1);
        x.hold(0, 0, 5);
        stands(x, 1, 0, 1, 50);
        x.run(12);
        stands(x, 103, 0, 1, 40);
        x.run(1);
        due(8, "LOST", x.coin(3, 1), 10);
        stands(x, 2, 0, 1, 60);
        toDay(x, 26);
        stands(x, 203, 0, 1, 40);
        x.run(1);
        due(8, "LOST in all", x.coin(3, 1), 10 + 20);
    }

    private static void optionsOfOneWhoIsDown() {
        AccountDay x = paying(499);
        x.run(5);
        x.option(102, 0, 10050, 400000);
        x.option(201, 0, 10050, 400000);
        x.option(200, 0, 10050, 400000);
        x.option(102, 0, 10050, 400000);
        x.run(6);
        x.declare(3);
        x.run(2);
        due(19, "he gave it: OVER", x.optionOf(0, 6), 2);
        due(19, "he took it: OVER", x.optionOf(1, 6), 2);
        due(19, "another's: OPEN", x.optionOf(2, 6), 0);
        due(19, "DECLARED it stays", x.optionOf(3, 6), 1);
    }

    private static void whatTheLatestSettlingTells() {
        AccountDay x = paying(499);
        x.run(13);
        due(29, "DUES", x.settled(1, 0), 500);
        x.man(5, 5);
        due(29, "of one who came later", x.settled(3, 0), 0);
        x.run(14);
        for (int what = 0; what < 5; what++) due(29, "the latest had none, " + what, x.settled(1, what), 0);
        due(44, "but it was", x.status(MISSING), 0);
        x = boughtIn(1, "");
        due(29, "BOUGHT IN", x.settled(0, 4), 3);
        stands(x, 100, 0, 1, 10);
        stands(x, 201, 0, 3, 10);
        x.run(14);
        due(29, "nothing of the one before", x.settled(0, 4), 0);
        due(29, "its own", x.settled(2, 4), 1);
    }

    // ---- 6: RULES

    private static void theTapeAtTheEdges() {
        AccountDay x = exchange(1, 0, 0, 1);
        due(21, "no byte", x.feed(-1, 0), 0);
        due(21, "the lowest byte", x.feed(('x' << 24) + ('y' << 16) + ('z' << 8) + 'i', 1), 1);
        due(21, "one more", x.feed('n', 1), 2);
        due(21, "two, the highest first", x.feed((255 << 24) + (255 << 16) + ('4' << 8) + '2', 2), 4);
        due(21, "three", x.feed((200 << 24) + ('*' << 16) + ('1' << 8) + '0', 3), 7);
        due(21, "four", x.feed(('+' << 24) + ('1' << 16) + ('-' << 8) + '8', 4), 11);
        due(23, "it is in42*10+1-8", x.rule(0, 1), 0);
        due(24, "it SAYS", x.says(3, 0), 413);
        due(23, "THE TAPE is empty then", x.count(11), 0);
        due(21, "all bits of a byte", x.feed(-1, 4), 4);
        due(22, "wipe", x.wipe(), 4);
        due(22, "it is empty", x.wipe(), 0);
        for (int i = 1; i <= 24; i++) due(21, "fed", x.feed(0x20202020, 4), 4 * i);
        for (int i = 97; i <= 120; i++) due(21, "byte by byte", x.feed(32, 1), i);
        due(21, "120 at most", x.feed(32, 1), FULL);
        due(21, "none fits still", x.feed(32, 0), 120);
        due(22, "wipe all", x.wipe(), 120);
        due(21, "room again", x.feed(32, 4), 4);
    }

    private static void aRuleOf120Bytes() {
        AccountDay x = exchange(1, 0, 0, 1);
        due(23, "sums", rule(x, "in " + "1+".repeat(58) + "1"), 0);
        due(24, "59", x.says(3, 0), 59);
        due(23, "digits", rule(x, "in 1 if" + " ".repeat(112) + "1"), 1);
        due(24, "1", x.says(3, 0), 1);
        due(23, "brackets", rule(x, "in (" + "(1)+".repeat(28) + "(1))"), 2);
        due(24, "29", x.says(3, 0), 29);
        due(23, "minus", rule(x, "in 1" + "--1".repeat(38) + "+1"), 3);
        due(24, "40", x.says(3, 0), 40);
        due(23, "the end of it is the FAULT", rule(x, "in " + "1+".repeat(58) + "+"), -129);
        due(23, "it ends too early", rule(x, "in 1" + "+1".repeat(57) + " +"), -130);
        due(23, "the last byte begins none", rule(x, "in " + "1+".repeat(58) + "?"), -129);
    }

    private static void rulesInForce() {
        AccountDay x = exchange(1, 0, 0, 1);
        due(23, "from 1, ahead of 3", rule(x, "rate 5", 1, 3), 0);
        int[] told = {0, 5, 5, 0, 0};
        for (int day = 0; day < 5; day++) {
            due(24, "on DAY " + day, x.says(0, 0), told[day]);
            due(25, "on DAY " + day, x.why(0, 0), told[day] == 5 ? 0 : NONE);
            x.run(1);
        }
        due(23, "from 0 on", rule(x, "rate 6", 0, 1), 1);
        due(23, "ahead of 1000", rule(x, "rate 7", 999, 1000), 2);
        due(23, "all DAYS", rule(x, "rate 8", 0, 1000), 3);
        for (int r = 4; r < 12; r++) due(23, "12 at most", rule(x, "hour " + r, 0, 1000), r);
        due(23, "a thirteenth", rule(x, "hour 1"), FULL);
        due(24, "the greatest number", x.says(1, 0), 11);
        due(25, "the greatest number", x.why(1, 0), 11);
        due(25, "of its KEY", x.why(0, 0), 3);
        due(36, "12 RULES", x.count(10), 12);
        toDay(x, 700);
        due(24, "on DAY 700", x.says(0, 0), 8);
    }

    private static void whichRuleSaysIt() {
        AccountDay x = exchange(1, 0, 0, 2);
        rule(x, "rate 1");
        rule(x, "rate 2 if stock=0");
        rule(x, "rate 0");
        due(25, "what SAYS 0 says it", x.why(0, 0), 2);
        due(24, "0", x.says(0, 0), 0);
        rule(x, "rate 3 if stock-1");
        due(25, "an if below 0 isn't 0", x.why(0, 0), 3);
        due(25, "an if of 0", x.why(0, 1), 2);
        rule(x, "rate 4 if stock=1 and 0");
        due(25, "nor this one", x.why(0, 1), 2);
        due(25, "no RULE with that KEY", x.why(2, 0), NONE);
        due(44, "NONE is no refusal", x.status(BEYOND), 0);
    }

    private static void whatIsSaidWithoutOne() {
        AccountDay x = exchange(1, 0, 0, 1);
        int[] without = {0, 120, 0, 0, 0, 1};
        String[] keys = {"rate", "hour", "late", "in", "good", "div"};
        for (int key = 0; key < 6; key++) {
            due(24, "without one: " + keys[key], x.says(key, 0), without[key]);
            due(25, "without one: " + keys[key], x.why(key, 0), NONE);
        }
        for (int key = 0; key < 6; key++) {
            due(23, "a RULE of " + keys[key], rule(x, keys[key] + " 77"), key);
            due(24, "its number as KEY", x.says(key, 0), 77);
            due(25, "its number as KEY", x.why(key, 0), key);
        }
    }

    private static void sumsOfAnEWrap() {
        due(24, "the most", says("rate 65536*32768-1"), MOST);
        due(24, "and 1", says("rate 65536*32768-1+1"), LEAST);
        due(24, "the least", says("rate 65536*32768"), LEAST);
        due(24, "less 1", says("rate 65536*32768-1-0"), MOST);
        due(24, "minus the least", says("rate -(65536*32768)"), LEAST);
        due(24, "the least by -1", says("rate 65536*32768/-1"), LEAST);
        due(24, "the rest of the least by -1", says("rate 65536*32768%-1"), 0);
        due(24, "a product", says("rate 99999*99999"), 1409865409);
        due(24, "a product below 0", says("rate -99999*99999"), -1409865409);
        due(24, "to 0", says("rate 65536*65536"), 0);
        due(24, "compared as it wrapped", says("rate 65536*32768<0"), 1);
    }

    private static void quotientsAndRests() {
        due(24, "7/2", says("rate 7/2"), 3);
        due(24, "-7/2", says("rate -7/2"), -3);
        due(24, "7/-2", says("rate 7/-2"), -3);
        due(24, "-7/-2", says("rate -7/-2"), 3);
        due(24, "7%3", says("rate 7%3"), 1);
        due(24, "-7%3", says("rate -7%3"), -1);
        due(24, "7%-3", says("rate 7%-3"), 1);
        due(24, "7/0", says("rate 7/0"), 0);
        due(24, "-7/0", says("rate -7/0"), 0);
        due(24, "0/0", says("rate 0/0"), 0);
        due(24, "7%0", says("rate 7%0"), 0);
        due(24, "-7%0", says("rate -7%0"), 0);
        due(24, "0%0", says("rate 0%0"), 0);
        due(24, "by what comes to 0", says("rate 5/(stock-1)+1"), 1);
        due(24, "both sides are worked", says("rate 1 or 1/0"), 1);
        due(24, "both sides are worked", says("rate 0 and 1%0"), 0);
    }

    private static void truth() {
        String[] told = {"0 or 0", "0", "0 or 2", "1", "3 or 0", "1", "3 or 2", "1", "0 or -1", "1", "0 and 0", "0",
            "0 and 2", "0", "3 and 0", "0", "3 and 2", "1", "-1 and -1", "1", "not 0", "1", "not 1", "0", "not -1", "0",
            "not 2", "0", "3=3", "1", "3=4", "0", "4=3", "0", "3<3", "0", "3<4", "1", "4<3", "0", "3>3", "0", "3>4", "0",
            "4>3", "1", "-1<0", "1", "0>-1", "1", "7", "7", "(7)", "7", "not not 7", "1", "0 or 1 and 0", "0",
            "1 or 1 and 0", "1", "not 0 and 0", "0", "not(0 and 0)", "1", "not 2=3", "1", "1+1=2", "1", "2=1+1", "1",
            "2 and 2=2", "1", "2 and (2=2)+1", "1", "8-4-2", "2", "8-(4-2)", "6", "24/4/2", "3", "24/4*2", "12",
            "2+3*4", "14", "(2+3)*4", "20", "7%4%2", "1", "-2*3", "-6", "2*-3", "-6", "2--3", "5", "- - 2", "2",
            "-(2+3)", "-5", "-2-3", "-5", "not 1<2", "0", "not 1 or 1", "1", "1=1=0", "fault"};
        for (int i = 0; i + 1 < told.length; i += 2) {
            if (told[i + 1].equals("fault")) due(23, told[i], isRule("rate " + told[i]) ? 1 : 0, 0);
            else due(24, told[i], says("rate " + told[i]), Integer.parseInt(told[i + 1]));
        }
    }

    private static void namesInRules() {
        AccountDay x = settledOnce();
        int[][] told = {{0, 0, 70, 13, 13, 3, 0, 0, 0, 0, 0}, {1, 1, 0, 13, 13, 3, 0, 0, 0, 0, 0},
            {104, 1, 0, 13, 13, 3, 1, 50, 1, 0, 3}, {105, 0, 70, 13, 13, 3, 3, 65, 0, 1, 0},
            {101, 0, 70, 13, 13, 3, 9, 70, 1, 3, 3}, {102, 0, 70, 13, 13, 3, 1, 1, 0, 2, 0}};
        String[] names = {"stock", "made", "day", "place", "men", "shares", "price", "seller", "buyer", "marks"};
        for (int n = 0; n < 10; n++) {
            due(23, names[n], rule(x, "late " + names[n]), n);
            for (int[] t : told) due(24, names[n] + " of " + t[0], x.says(2, t[0]), t[n + 1]);
        }
        x.run(3);
        rule(x, "late day*100+place");
        due(24, "of the open DAY", x.says(2, 0), 1602);
    }

    private static void marksInRules() {
        AccountDay x = exchange(2, 0, 0, 1);
        rule(x, "good marks");
        x.bargain(1, 0, 1, 1);
        due(24, "neither's", x.says(4, 100), 0);
        x.mark(0, 0);
        due(24, "the SELLER's", x.says(4, 100), 1);
        x.bargain(1, 0, 1, 1);
        x.mark(1, 1);
        due(24, "the BUYER's", x.says(4, 101), 2);
        x.mark(1, 0);
        due(24, "both", x.says(4, 101), 3);
    }

    private static void whoAtTheEdges() {
        AccountDay x = full();
        due(24, "STOCK 4", x.says(3, 4), 1);
        due(24, "BARGAIN 0", x.says(3, 100), 1);
        due(24, "BARGAIN 59", x.says(3, 159), 1);
        due(25, "BARGAIN 59", x.why(3, 159), 11);
        due(44, "none refused", x.status(BEYOND), 0);
    }

    private static void tokensAreAsLongAsCanBe() {
        due(23, "ratee", fault("ratee 1"), 0);
        due(23, "rat", fault("rat 1"), 0);
        due(23, "r ate", fault("r ate 1"), 0);
        due(23, "ratein", fault("ratein 1"), 0);
        due(23, "rate in", fault("rate in 1"), 5);
        due(23, "notnot", fault("rate notnot 1"), 5);
        due(23, "1or", isRule("rate 1or 1") ? 1 : 0, 1);
        due(23, "1 or1", isRule("rate 1 or1") ? 1 : 0, 1);
        due(23, "ifmade", fault("rate 1 ifmade"), 7);
        due(23, "rate1", isRule("rate1") ? 1 : 0, 1);
        due(23, "12 34", fault("rate 12 34"), 8);
        due(23, "days", fault("rate days"), 5);
        due(23, "da", fault("rate da"), 5);
        String[] opened = {"not ", "-", "(", "1 and ", "1+", "1 if ", "1 "};
        for (String o : opened) due(23, "an unknown WORD behind " + o, fault("rate " + o + "foo 1"), 5 + o.length());
        due(23, "and first", fault("foo rate 1"), 0);
        due(23, "many letters", fault("rate " + "a".repeat(115)), 5);
        due(23, "blanks all over", isRule("  rate  (  1  +  2  )  ") ? 1 : 0, 1);
        due(23, "no blanks", isRule("rate(1+2)if(not(1))or 0") ? 1 : 0, 1);
        due(23, "12345", says("rate 12345"), 12345);
        due(23, "00000", says("rate 00000"), 0);
        due(23, "99999", says("rate 99999"), 99999);
        due(23, "00001", says("rate 00001"), 1);
        due(23, "123456", fault("rate 123456"), 5);
        due(23, "000000", fault("rate 000000"), 5);
        due(23, "a hundred digits", fault("rate " + "1".repeat(100)), 5);
        due(23, "123456 where it can't stand", fault("rate 1 123456"), 7);
    }

    private static void bytesThatBeginNone() {
        int[] none = {0, 1, 9, 10, 13, 31, 33, 34, 35, 36, 38, 39, 44, 46, 58, 59, 63, 64, 65, 90, 91, 96, 123, 126, 127,
            128, 160, 229, 255};
        for (int b : none) {
            due(23, "byte " + b, fault("rate 1" + (char) b), 6);
            due(23, "byte " + b + " first", fault((char) b + "rate 1"), 0);
            due(23, "byte " + b + " in a word", fault("ra" + (char) b + "te 1"), 0);
        }
        due(23, "behind what can't stand", fault("rate ) ?"), 5);
        due(23, "ahead of what can't stand", fault("rate ? )"), 5);
    }

    private static void faultsByPlace() {
        String[] told = {"", "0", " ", "1", "      ", "6", "rate", "4", "rate   ", "7", "rate 1+", "7", "rate 1 + ", "9",
            "rate 1 if", "9", "rate 1 if ", "10", "rate (", "6", "rate (1", "7", "rate (1 ", "8", "rate not", "8", "rate -", "6",
            "rate 1=", "7", "rate 1 and", "10", "1", "0", "(", "0", "stock 1", "0", "if 1", "0", "not 1", "0", "rate )", "5",
            "rate +1", "5", "rate *1", "5", "rate =1", "5", "rate if 1", "5", "rate or 1", "5", "rate and 1", "5", "rate rate", "5",
            "rate 1 2", "7", "rate 1 stock", "7", "rate 1 not 1", "7", "rate 1 (", "7", "rate 1 rate", "7", "rate 1)", "6",
            "rate (1))", "8", "rate ()", "6", "rate (1 1)", "8", "rate (1 if 1)", "8", "rate 1+*1", "7", "rate 1+not 1", "7",
            "rate 1*not 1", "7", "rate 1=not 1", "7", "rate -not 1", "6", "rate 1 and and 1", "11", "rate 1 or if 1", "10",
            "rate 1=1=1", "8", "rate 1<1>1", "8", "rate not 1=1=1", "12", "rate (1=1)=1=1", "12", "rate 1 if 1 if 1", "12",
            "rate 1 if )", "10", "rate 1 if 1)", "11", "rate 1 if 1 1", "12", "rate 1 if if", "10", "rate 1 if rate", "10",
            "rate 1 + if 1", "9"};
        for (int i = 0; i + 1 < told.length; i += 2) due(23, told[i], fault(told[i]), Integer.parseInt(told[i + 1]));
        String[] good = {"rate (1=1)=1", "rate (1=1)=(1=1)", "rate not not 1", "rate not 1=1 and not 1<1", "rate 1 if not 1",
            "rate (not 1)", "rate -(not 1)", "rate 1=1 or 1=1 and 1=1", "rate stock if made", "div marks", "rate 1=-1",
            "rate (1) if (1)"};
        for (String text : good) due(23, text, isRule(text) ? 1 : 0, 1);
    }

    private static void sixMayBeOpen() {
        String[] opened = {"(", "not ", "-"};
        String[] ended = {")", "", ""};
        for (int i = 0; i < 3; i++) {
            String six = opened[i].repeat(6) + "1" + ended[i].repeat(6);
            due(23, "six " + opened[i], isRule("rate " + six) ? 1 : 0, 1);
            due(23, "seven " + opened[i], fault("rate " + opened[i].repeat(7) + "1"), 5 + 6 * opened[i].length());
            due(23, "six, ended, six", isRule("rate " + six + " and " + six) ? 1 : 0, 1);
            due(23, "six in the if", isRule("rate " + six + " if " + six) ? 1 : 0, 1);
            due(23, "seven in the if", fault("rate 1 if " + opened[i].repeat(7)), 10 + 6 * opened[i].length());
            due(23, "six, ended, seven", fault("rate " + six + " and " + opened[i].repeat(7)),
                10 + six.length() + 6 * opened[i].length());
            for (int j = 0; j < 3; j++) {
                boolean notInOne = opened[j].equals("not ") && opened[i].equals("-");
                if (!notInOne) due(23, "a " + opened[j] + "in six " + opened[i], fault("rate " + opened[i].repeat(6) + opened[j]),
                    5 + 6 * opened[i].length());
            }
        }
        due(23, "a - between two is none of these", isRule("rate ((((((1-1))))))") ? 1 : 0, 1);
        due(23, "a - ends with its ONE", isRule("rate -----1-(-----1)") ? 1 : 0, 1);
        due(23, "a - of brackets ends with them", isRule("rate -(---(1))*------1") ? 1 : 0, 1);
        due(23, "while its brackets are open it is open", fault("rate -(-(-(-1"), 11);
        due(23, "a ( ends with its )", isRule("rate (((((1)))))+((((((1))))))") ? 1 : 0, 1);
        due(23, "a not ends with its NOT", isRule("rate not not not 1 and not not not not not not 1") ? 1 : 0, 1);
        due(23, "its NOT has the whole SUM", fault("rate not not not 1+((((1))))"), 22);
        due(23, "and what is compared", fault("rate not not not 1=((((1))))"), 22);
        due(23, "in brackets it ends with them", isRule("rate (not not not 1)+((((((1))))))") ? 1 : 0, 1);
        due(23, "all kinds together", fault("rate not (-(not (-1"), 17);
        due(23, "six of all kinds", isRule("rate not (-(not (1))))") ? 1 : 0, 0);
        due(23, "six of all kinds, each ended", isRule("rate not (-(not (1)))") ? 1 : 0, 1);
    }

    private static void aFaultLeavesTheTape() {
        AccountDay x = exchange(1, 0, 0, 1);
        due(23, "a FAULT", rule(x, "in 1+"), -15);
        due(36, "THE TAPE stays", x.count(11), 5);
        due(36, "no RULE came", x.count(10), 0);
        feed(x, "2");
        due(23, "it goes on", x.rule(0, 1), 0);
        due(24, "1+2", x.says(3, 0), 3);
    }

    // ---- 7: LEAST, ROWS, CORNERS, OTHER WAYS

    private static AccountDay nets(int... nets) {
        AccountDay x = exchange(12, 0, 0, 2);
        int from = 0;
        int[] left = nets.clone();
        for (int to = 0; to < left.length; to++) {
            while (left[to] > 0) {
                while (left[from] >= 0) from++;
                int n = Math.min(left[to], -left[from]);
                stands(x, 100 * from + to, 0, n, 1);
                left[to] -= n;
                left[from] += n;
            }
        }
        return x;
    }

    private static void leastAtTheEdges() {
        due(30, "nobody", nets().least(0, 0), 0);
        due(30, "two", nets(5, -5).least(0, 0), 1);
        due(30, "three", nets(5, -2, -3).least(0, 0), 2);
        due(30, "two parts", nets(5, -5, 3, -3).least(0, 0), 2);
        due(30, "one part", nets(5, -4, 3, -4).least(0, 0), 3);
        due(30, "what comes first isn't best", nets(5, 4, -4, -3, -2).least(0, 0), 3);
        due(30, "ten, one part", nets(9, -1, -1, -1, -1, -1, -1, -1, -1, -1).least(0, 0), 9);
        due(30, "ten, five parts", nets(1, -1, 2, -2, 3, -3, 4, -4, 5, -5).least(0, 0), 5);
        due(30, "ten, parts of three and four", nets(6, 8, 14, -5, -1, -3, -5, -6, -4, -4).least(0, 0), 7);
        due(30, "ten of twelve", nets(0, 0, 9, -1, -1, -1, -1, -1, -1, -1, -1, -1).least(0, 0), 9);
        due(30, "eleven", nets(10, -1, -1, -1, -1, -1, -1, -1, -1, -1, -1).least(0, 0), KIND);
        due(30, "another STOCK", nets(10, -1, -1, -1, -1, -1, -1, -1, -1, -1, -1).least(1, 0), 0);
        due(30, "another ACCOUNT", nets(10, -1, -1, -1, -1, -1, -1, -1, -1, -1, -1).least(0, 1), 0);
        due(30, "ACCOUNT 0 is not below 0", nets(1, -1).least(0, 0), 1);
        due(30, "far off", nets(1, -1).least(0, MOST), 0);
    }

    private static void rowsThatAreGood() {
        AccountDay x = nets(20, -20);
        int[] most = new int[60];
        for (int i = 0; i < 60; i += 3) {
            most[i] = 1;
            most[i + 1] = 0;
            most[i + 2] = 1;
        }
        due(31, "20 PASSES", judged(x, most), 20);
        most[59] = 2;
        due(31, "a SHARE too many", judged(x, most), NONE);
        most[59] = 0;
        due(31, "a PASS of none", judged(x, most), NONE);
        due(31, "one PASS", judged(x, 1, 0, 20), 1);
        due(31, "a SHARE too few", judged(x, 1, 0, 19), NONE);
        due(31, "the other way", judged(x, 0, 1, 20), NONE);
        due(31, "below 0, the other way", judged(x, 0, 1, -20), NONE);
        due(31, "below 0, made good", judged(x, 1, 0, 21, 1, 0, -1), NONE);
        due(31, "by one whose NET is 0", judged(x, 1, 2, 20, 2, 0, 20), NONE);
        due(31, "to himself", judged(x, 1, 0, 20, 2, 2, 1), NONE);
        due(31, "to himself, who gave", judged(x, 1, 0, 20, 1, 1, 1), NONE);
        due(31, "from no MAN", judged(x, 1, 0, 19, 12, 0, 1), NONE);
        due(31, "to no MAN", judged(x, 1, 0, 20, 1, 12, 1), NONE);
        due(31, "from -1", judged(x, 1, 0, 19, -1, 0, 1), NONE);
        due(31, "to -1", judged(x, 1, 0, 19, 1, -1, 1), NONE);
        due(31, "from the least", judged(x, LEAST, 0, 20), NONE);
        due(31, "to the most", judged(x, 1, MOST, 20), NONE);
        due(31, "sums don't wrap", judged(x, 1, 0, MOST, 1, 0, MOST, 1, 0, 22), NONE);
        due(31, "nothing", judged(x), NONE);
        due(31, "two more who give and get", judged(x, 1, 0, 20, 2, 3, 5), NONE);
        due(31, "and back", judged(x, 1, 0, 20, 2, 3, 5, 3, 2, 5), NONE);
        due(31, "gave one of what he got", judged(nets(20, -21, 1), 1, 0, 21, 0, 2, 1), NONE);
        due(31, "got one of what he gave", judged(nets(-20, 21, -1), 2, 0, 1, 0, 1, 21), NONE);
        due(44, "a ROW that isn't GOOD is no refusal", x.status(NO) + x.status(BEYOND) + x.status(KIND), 0);
        x.lay(0);
        due(31, "nothing is whole in another STOCK", x.judge(1, 0), 0);
        due(31, "nothing is whole in another ACCOUNT", x.judge(0, MOST), 0);
    }

    private static void fewerMenThanTwelve() {
        AccountDay x = exchange(2, 0, 0, 1);
        stands(x, 1, 0, 5, 1);
        due(31, "the MEN that are there", judged(x, 0, 1, 5), 1);
        due(31, "MAN 2 isn't there", judged(x, 0, 1, 5, 0, 2, 1), NONE);
    }

    /** HOLD and NET: 0 has 10 of NET, 1 has HOLD 4 less 10, 2 has HOLD so many. */
    private static AccountDay cornered(int held) {
        AccountDay x = exchange(4, 0, 0, 2);
        x.hold(1, 0, 4);
        x.hold(2, 0, held);
        stands(x, 100, 0, 10, 10);
        return x;
    }

    private static void cornersAtTheEdges() {
        int[][] told = {{0, 6}, {5, 1}, {6, 0}, {7, 0}};
        for (int[] t : told) {
            AccountDay x = cornered(t[0]);
            due(32, "CORNER, " + t[0] + " with another", x.corner(0, 0, 0), t[1]);
            due(32, "NEED", x.corner(0, 0, 1), 6);
            due(32, "HAVE", x.corner(0, 0, 2), t[0]);
            due(32, "by one of them: NEED", x.corner(0, 1, 1), 0);
            due(32, "by one of them: HAVE", x.corner(0, 1, 2), 10 + t[0]);
            due(32, "by one of them: CORNER", x.corner(0, 1, 0), 0);
            due(32, "of another STOCK", x.corner(1, 0, 0) + x.corner(1, 0, 1) + x.corner(1, 0, 2), 0);
        }
    }

    private static void cornersOfTheOpenAccount() {
        AccountDay x = cornered(0);
        x.lend(0, 999);
        x.lend(1, 999);
        x.run(10);
        stands(x, 200, 0, 3, 10);
        due(32, "the next ACCOUNT isn't in it", x.corner(0, 0, 1), 6);
        x.run(3);
        // 1's HOLD is 0 then, and 0's is 10
        due(32, "behind the SETTLING", x.corner(0, 3, 1), 0);
        due(32, "HAVE", x.corner(0, 3, 2), 10);
        x.run(1);
        due(32, "in the next ACCOUNT", x.corner(0, 0, 1), 3);
    }

    private static void whoIsDownIsInNoCorner() {
        AccountDay x = settledOnce();
        due(9, "he has HOLD", x.has(3, 0, 0), 9);
        due(32, "not of the others", x.corner(0, 0, 2), 0);
        stands(x, 1, 0, 2, 10);
        x.asks(3, 0, 1);
        x.asks(1, 0, 7);
        x.run(1);
        due(32, "by one who is DOWN", x.corner(0, 3, 1), 2);
        due(33, "his SHARES are none to buy", x.squeeze(0, 2), 14);
    }

    private static void squeezesAtTheEdges() {
        AccountDay x = cornered(5);
        due(33, "at PRICE 0", x.squeeze(0, 0), 0);
        x.asks(0, 0, 9999);
        x.asks(2, 0, 9998);
        due(33, "5 at 9998, then one at 9999", x.squeeze(0, 0), 5 * 9998 + 9999);
        x.asks(2, 0, 9999);
        due(33, "of like PRICES", x.squeeze(0, 0), 6 * 9999);
        x.asks(0, 0, 3);
        due(33, "all of the cheapest", x.squeeze(0, 0), 18);
        due(33, "by another", x.squeeze(0, 3), 18);
        due(33, "no NEED", x.squeeze(0, 1), 0);
        due(33, "another STOCK", x.squeeze(1, 0), 0);
        due(44, "none of it refused", x.status(BEYOND), 0);
        AccountDay just = exchange(2, 0, 0, 1);
        stands(just, 100, 0, 10, 10);
        just.asks(0, 0, 7);
        due(33, "just enough", just.squeeze(0, 0), 70);
        x = cornered(1);
        x.asks(0, 0, 8);
        x.asks(2, 0, 5);
        due(33, "one SHARE of the cheapest", x.squeeze(0, 0), 5 + 5 * 8);
    }

    /** 1 buys of 0 for 100 on DAY 3 with so much COIN. */
    private static AccountDay rolled(int coin) {
        AccountDay x = exchange(3, 0, 0, 1);
        x.lend(1, coin);
        x.run(3);
        stands(x, 1, 0, 10, 10);
        return x;
    }

    private static void rollingAtTheEdges() {
        due(34, "COIN just enough", rolled(100).rolling(0, 0), 0);
        due(34, "a coin too little", rolled(99).rolling(0, 0), 1);
        due(34, "up to the last DAY", rolled(99).rolling(0, 10), 1);
        due(34, "behind the last DAY", rolled(99).rolling(0, 11), 0);
        due(34, "28 DAYS", rolled(99).rolling(0, 28), 0);
        due(34, "another ACCOUNT", rolled(99).rolling(1, 0), 0);
        due(34, "far off", rolled(99).rolling(MOST, 0), 0);
        due(34, "far off, 28 DAYS", rolled(99).rolling(MOST, 28), 0);
        AccountDay x = rolled(99);
        x.rolling(0, 0);
        x.clearing(0);
        due(34, "nothing has changed", x.coin(1, 0) * 10 + x.look(1, 0), 991);
        x = exchange(2, 99, 0, 1);
        x.run(10);
        stands(x, 1, 0, 10, 10);
        due(34, "made in the ACCOUNT ahead: 17 DAYS on", x.rolling(1, 17), 1);
        due(34, "18 DAYS on is behind it", x.rolling(1, 18), 0);
    }

    private static void rollingInOrder() {
        AccountDay x = exchange(3, 100, 0, 1);
        x.bargain(1, 0, 1, 1);
        x.run(1);
        stands(x, 102, 0, 10, 10);
        x.run(1);
        x.clear(0);
        stands(x, 1, 0, 10, 20);
        due(34, "by the DAY made: 1 gets 100 first", x.rolling(0, 0), 0);
        x = exchange(3, 100, 0, 1);
        stands(x, 1, 0, 10, 20);
        stands(x, 102, 0, 10, 10);
        due(34, "of one DAY by numbers: 1 can't yet", x.rolling(0, 0), 1);
    }

    private static void rollingOfOneThatFailed() {
        AccountDay x = exchange(4, 100, 0, 1);
        stands(x, 1, 0, 11, 10);
        stands(x, 201, 0, 1, 1);
        stands(x, 102, 0, 99, 9999);
        stands(x, 203, 0, 10, 10);
        stands(x, 302, 0, 20, 10);
        due(34, "he fails once; who buys of him pays nothing; others go on", x.rolling(0, 0), 1);
        stands(x, 302, 0, 1, 1);
        due(34, "another fails", x.rolling(0, 0), 2);
    }

    private static void clearingAtTheEdges() {
        due(35, "COIN just enough", rolled(100).clearing(0), 0);
        due(35, "a coin too little", rolled(99).clearing(0), 1);
        due(35, "another ACCOUNT", rolled(99).clearing(1), 0);
        due(35, "far off", rolled(99).clearing(MOST), 0);
        AccountDay x = rolled(0);
        stands(x, 102, 0, 10, 10);
        due(35, "all of a MAN's together", x.clearing(0), 1);
        stands(x, 102, 0, 10, 1);
        x.lend(2, 110);
        due(35, "nobody", x.clearing(0), 0);
        stands(x, 1, 0, 11, 1);
        due(35, "a coin too little again", x.clearing(0), 1);
        x = exchange(12, 0, 0, 1);
        for (int m = 1; m < 12; m++) stands(x, m, 0, 1, 1);
        due(35, "eleven", x.clearing(0), 11);
        x = exchange(3, 5, 0, 1);
        stands(x, 100, 0, 6, 1);
        due(35, "MAN 0", x.clearing(0), 1);
        stands(x, 1, 0, 4, 1);
        stands(x, 102, 0, 4, 1);
        due(35, "MAN 0 has 5, pays 6 and gets 4; 1 pays 4 and gets 6 and 4", x.clearing(0), 0);
        stands(x, 100, 0, 4, 1);
        due(35, "MAN 0 pays 10 and gets 4", x.clearing(0), 1);
        stands(x, 2, 0, 1, 1);
        due(35, "MAN 0 gets one more", x.clearing(0), 0);
    }

    // ---- counts, images, rows, status

    private static void counts() {
        AccountDay x = settledOnce();
        feed(x, "abc");
        x.dividend(0, 20, 1);
        int[] told = {13, 13, 0, 4, 2, 1, 1, 2, 2, 3, 0, 3, 1, 2, 2, 1};
        for (int what = 0; what < 16; what++) due(36, "count(" + what + ")", x.count(what), told[what]);
    }

    private static void imagesKeepAll() {
        AccountDay x = settledOnce();
        java.util.List<Long> before = allOf(() -> {
            AccountDay y = settledOnce();
            y.image();
            return y;
        });
        java.util.List<Long> after = allOf(() -> {
            AccountDay y = settledOnce();
            y.image();
            disturb(y);
            y.back();
            y.lay(0);
            y.wipe();
            return y;
        });
        due(38, "all is again as it was kept", before.equals(after) ? 1 : 0, 1);
        due(37, "the open DAY", x.image(), 13);
        due(37, "of the one that is kept", x.back(), 13);
        x.run(28);
        due(37, "another one", x.image(), 41);
        due(38, "takes its place", x.back(), 41);
    }

    /** DAY 14, behind a SETTLING: of 12 MEN 9 is DOWN, 11 LOST by it, 10 owes 11 EXTRA. */
    private static AccountDay crowd() {
        AccountDay x = exchange(12, 1000, 7, 5);
        x.hold(10, 4, 7);
        x.hold(11, 4, 60);
        x.asks(11, 4, 9);
        stands(x, 1109, 4, 50, 90);
        x.run(12);
        stands(x, 911, 4, 3, 10);
        stands(x, 1011, 4, 50, 200);
        x.run(1);
        x.dividend(4, 13, 3);
        x.run(1);
        x.image();
        return x;
    }

    /** NAMES were, SETTLING wasn't yet. */
    private static void imagesBetweenNamesAndSettling() {
        AccountDay x = exchange(3, 9999, 7, 1);
        stands(x, 102, 0, 5, 60);
        x.run(12);
        due(37, "the open DAY", x.image(), 12);
        x.run(2);
        due(29, "by then it was", x.settled(2, 0), 300);
        due(38, "back to it", x.back(), 12);
        due(27, "NAMES were", x.pass(0, 1), 2);
        due(28, "NAMES were", x.delivery(0, 1), 1);
        due(29, "SETTLING wasn't yet", x.settled(2, 0), 0);
        due(44, "it is MISSING", x.status(MISSING), 1);
        x.run(1);
        due(29, "it is once more", x.settled(2, 0), 300);
    }

    private static void imagesKeepTheLastMan() {
        AccountDay x = crowd();
        due(7, "9 is DOWN", x.look(9, 0), 0);
        due(8, "11 LOST", x.coin(11, 1), 240);
        due(8, "10 owes EXTRA", x.coin(10, 2), 150);
        due(29, "11 got", x.settled(11, 2), 1000);
        java.util.List<Long> before = allOf(EdgesTest::crowd);
        java.util.List<Long> after = allOf(() -> {
            AccountDay y = crowd();
            y.asks(11, 4, 3);
            y.hold(11, 4, 1);
            y.run(11);
            stands(y, 1108, 4, 1, 1);
            y.run(3);
            due(7, "11 is DOWN, too", y.look(11, 0), 0);
            due(8, "8 has LOST by it", y.coin(8, 1), 199);
            y.back();
            return y;
        });
        due(38, "all is again as it was kept", before.equals(after) ? 1 : 0, 1);
    }

    private static void disturb(AccountDay x) {
        rule(x, "good 1");
        x.man(1, 1);
        x.stock();
        x.lend(0, 9);
        x.hold(1, 1, 5);
        x.asks(1, 1, 5);
        x.mark(5, 0);
        x.clear(2);
        x.bargain(201, 1, 5, 5);
        x.option(102, 0, 10001, 10005);
        x.declare(2);
        x.dividend(1, 15, 9);
        x.dividend(0, 16, 3);
        x.run(28);
    }

    private static void imagesOfAnEmptyExchange() {
        AccountDay x = new AccountDay();
        due(38, "nothing is kept", x.back(), MISSING);
        due(37, "DAY 0", x.image(), 0);
        x.man(5, 5);
        x.stock();
        x.run(13);
        due(38, "DAY 0 again", x.back(), 0);
        due(38, "no MEN", x.count(3), 0);
        due(38, "no NAMES", x.pass(0, 0), MISSING);
        due(38, "no SETTLING", x.settled(0, 0), 0);
        due(44, "by MISSING", x.status(MISSING), 3);
        due(2, "numbers from 0 on again", x.man(6, 6), 0);
        due(7, "nothing of the old one", x.look(0, 1), 6);
        due(38, "what was kept stays", x.back(), 0);
        due(38, "as it was", x.count(3), 0);
    }

    private static void whatAnImageDoesNotKeep() {
        AccountDay x = new AccountDay();
        x.lay(3);
        x.set(1, 7);
        feed(x, "in 1");
        x.image();
        x.set(1, 8);
        feed(x, "+1");
        x.run(0);
        x.back();
        due(38, "THE ROW", x.row(1), 8);
        due(38, "THE TAPE", x.count(11), 6);
        due(38, "status()", x.status(NO), 1);
        x.tear();
        x.back();
        due(38, "THE ROW is missing still", x.tear(), 0);
    }

    private static void rulesComeBack() {
        AccountDay x = exchange(1, 0, 0, 1);
        rule(x, "in 1+2");
        x.image();
        rule(x, "in 5");
        due(24, "the newer one", x.says(3, 0), 5);
        x.back();
        due(24, "the one that was kept", x.says(3, 0), 3);
        due(23, "its number is free again", rule(x, "in 40-1"), 1);
        due(24, "it SAYS", x.says(3, 0), 39);
        x.back();
        due(25, "none but the first", x.why(3, 0), 0);
    }

    private static void rowsAtTheEdges() {
        AccountDay x = new AccountDay();
        due(41, "missing at first", x.tear(), 0);
        due(39, "none", x.lay(0), 0);
        due(41, "it is there", x.tear(), 1);
        due(41, "no longer", x.tear(), 0);
        due(39, "60", x.lay(60), 60);
        for (int i = 0; i < 60; i++) due(40, "0 before", x.set(i, LEAST + i), 0);
        due(42, "the first", x.row(0), LEAST);
        due(42, "the last", x.row(59), LEAST + 59);
        due(40, "the one before", x.set(59, MOST), LEAST + 59);
        due(39, "anew", x.lay(60), 60);
        for (int i = 0; i < 60; i++) due(39, "all 0", x.row(i), 0);
        x.set(59, 5);
        x.lay(2);
        due(42, "the last of two", x.row(1), 0);
        due(44, "not refused", x.status(BEYOND), 0);
        x.lay(60);
        due(39, "nothing of the old one", x.row(59), 0);
        x.set(3, 4);
        x.lay(61);
        due(39, "a refused one leaves it", x.row(3), 4);
    }

    private static void seesCopied(int i, int j, int n, int... told) {
        AccountDay x = new AccountDay();
        x.lay(5);
        for (int k = 0; k < 5; k++) x.set(k, k + 1);
        due(43, "copy(" + i + ", " + j + ", " + n + ")", x.copy(i, j, n), n);
        for (int k = 0; k < 5; k++) due(43, "copy(" + i + ", " + j + ", " + n + "), place " + k, x.row(k), told[k]);
    }

    private static void copiesAtTheEdges() {
        seesCopied(0, 1, 4, 1, 1, 2, 3, 4);
        seesCopied(1, 0, 4, 2, 3, 4, 5, 5);
        seesCopied(0, 2, 3, 1, 2, 1, 2, 3);
        seesCopied(0, 0, 5, 1, 2, 3, 4, 5);
        seesCopied(4, 0, 1, 5, 2, 3, 4, 5);
        seesCopied(0, 4, 1, 1, 2, 3, 4, 1);
        seesCopied(0, 3, 2, 1, 2, 3, 1, 2);
        seesCopied(5, 5, 0, 1, 2, 3, 4, 5);
        seesCopied(0, 5, 0, 1, 2, 3, 4, 5);
        seesCopied(5, 0, 0, 1, 2, 3, 4, 5);
        AccountDay x = new AccountDay();
        x.lay(60);
        x.set(0, 9);
        due(43, "30 of 60", x.copy(0, 30, 30), 30);
        due(43, "copied", x.row(30), 9);
        x.lay(0);
        due(43, "none of none", x.copy(0, 0, 0), 0);
    }

    private static void statusCountsEach() {
        AccountDay x = exchange(1, 0, 0, 1);
        for (int i = 0; i < 3; i++) x.back();
        for (int i = 0; i < 4; i++) x.made(1);
        for (int i = 0; i < 5; i++) x.run(-1);
        x.lay(1);
        for (int i = 0; i < 6; i++) x.judge(0, 0);
        for (int i = 0; i < 7; i++) x.copy(1, 1, 1);
        for (int i = 0; i < 8; i++) x.run(0);
        for (int i = 0; i < 13; i++) x.stock();
        for (int by = MISSING; by >= COPY; by--) due(44, "status(" + by + ")", x.status(by), 1 - by);
        due(44, "NO", x.status(NO), 8);
        due(44, "FULL", x.status(FULL), 9);
        x.coin(1, 0);
        due(44, "of those that tell 0 by what they tell", x.status(BEYOND), 5);
        x.status(0);
        x.status(NONE);
        due(44, "another number is counted, too", x.status(NO), 10);
        due(44, "asking is not", x.status(NO), 10);
    }

    private static void days() {
        daysAndAccounts();
        theLastDayThatCanBeClosed();
        aNewObject();
        menAtTheEdges();
        stocksAtTheEdges();
        holdAndCoinAddUp();
        asksAtTheEdges();
    }

    private static void bargains() {
        bargainsAtTheEdges();
        theLeastNumberThatIsFree();
        theAccountByThePlace();
        marksAreKeptByDay();
        clearTellsTheState();
        lookCountsOpenOrStanding();
        netsOfThisAccountAndTheNext();
        knewAtTheEdges();
        thePriceToPutOff();
        putOffAtTheEdges();
        aNumberThatWasPutOff();
        optionsAtTheEdges();
        theLastDayOfAnOption();
        declaredIntoAnAccount();
    }

    private static void closing() {
        goodAtTheEdges();
        goodIsAskedOfEach();
        dividendsAtTheEdges();
        extraOfTheFirstAndTheLast();
        dividendsOfHolders();
        goodStandsAheadOfDividends();
        divAtTheEdges();
        dividendsThatWait();
        makingUpAtItsPlace();
        whichOneMakesUp();
        putOffMakesNothingUp();
        namesAndSettlingAtTheirPlaces();
        theNextAccountIsNotSettled();
    }

    private static void tickets() {
        netsAtTheEdges();
        splitTickets();
        stockByStock();
        anEmptyRowBehindAnother();
        leftOfWhichBargains();
        theHour();
        theHourWithoutARule();
        threeHundredPasses();
    }

    private static void settling() {
        differences();
        whatIsBoughtIn();
        holdOfEachStock();
        whatIsOwedByWhoWasLate();
        ofEachTwoTheRest();
        coinAtTheEdges();
        allOfThemBecomeDown();
        paidByWhatWasPaid();
        allIsPaidInTheLastRound();
        partsAreCut();
        partsDoNotWrap();
        whatIsVoidByOneWhoIsDown();
        manAndBargain0();
        lostAddsUp();
        optionsOfOneWhoIsDown();
        whatTheLatestSettlingTells();
    }

    private static void rules() {
        theTapeAtTheEdges();
        aRuleOf120Bytes();
        rulesInForce();
        whichRuleSaysIt();
        whatIsSaidWithoutOne();
        sumsOfAnEWrap();
        quotientsAndRests();
        truth();
        namesInRules();
        marksInRules();
        whoAtTheEdges();
        tokensAreAsLongAsCanBe();
        bytesThatBeginNone();
        faultsByPlace();
        sixMayBeOpen();
        aFaultLeavesTheTape();
    }

    private static void sums() {
        leastAtTheEdges();
        rowsThatAreGood();
        fewerMenThanTwelve();
        cornersAtTheEdges();
        cornersOfTheOpenAccount();
        whoIsDownIsInNoCorner();
        squeezesAtTheEdges();
        rollingAtTheEdges();
        rollingInOrder();
        rollingOfOneThatFailed();
        clearingAtTheEdges();
    }

    private static void images() {
        counts();
        imagesKeepAll();
        imagesBetweenNamesAndSettling();
        imagesKeepTheLastMan();
        imagesOfAnEmptyExchange();
        whatAnImageDoesNotKeep();
        rulesComeBack();
        rowsAtTheEdges();
        copiesAtTheEdges();
        statusCountsEach();
    }

    public static void main(String[] args) {
        days();
        bargains();
        closing();
        tickets();
        settling();
        rules();
        sums();
        images();
        end("EdgesTest");
    }
}
