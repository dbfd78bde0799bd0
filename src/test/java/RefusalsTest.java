import java.util.HashMap;
import java.util.List;
import java.util.Map;
import java.util.function.Supplier;
import java.util.function.ToLongFunction;

/**
 * Each refusal that a promise names, at the first number beyond and far beyond; of several the one that the
 * promise's line has first. By each the answer is looked at, that status() counts it, and it alone, and that
 * nothing else has changed.
 */
public final class RefusalsTest extends Bench {
    private static final Supplier<AccountDay> NEW = AccountDay::new;
    private static final Supplier<AccountDay> BEGUN = Bench::begun;
    private static final Supplier<AccountDay> SETTLED_ONCE = Bench::settledOnce;
    private static final Supplier<AccountDay> NO_ROOM = Bench::full;
    private static final Supplier<AccountDay> MADE_UP = () -> madeUp(1);
    private static final Supplier<AccountDay> ONE_FREE = () -> madeUp(59);
    private static final Supplier<AccountDay> NONE_FREE = () -> madeUp(60);
    private static final Supplier<AccountDay> ONE_DOWN = Bench::madeUpWithOneDown;
    private static final Supplier<AccountDay> NAMED_ANEW = () -> {
        AccountDay x = madeUp(1);
        toDay(x, 26);
        return x;
    };
    private static final Supplier<AccountDay> THE_END = Bench::atTheEnd;
    private static final Map<Supplier<AccountDay>, List<Long>> SEEN = new HashMap<>();

    private static void refused(int promise, String what, Supplier<AccountDay> at, ToLongFunction<AccountDay> call, int by) {
        refused(promise, what, at, call, by, by);
    }

    /** Of the calls that answer 0 and tell of it by status(). */
    private static void told(int promise, String what, Supplier<AccountDay> at, ToLongFunction<AccountDay> call, int by) {
        refused(promise, what, at, call, by, 0);
    }

    private static void refused(int promise, String what, Supplier<AccountDay> at, ToLongFunction<AccountDay> call,
            int by, int answer) {
        AccountDay x = at.get();
        int[] before = statuses(x);
        due(promise, what, call.applyAsLong(x), answer);
        int[] after = statuses(x);
        for (int i = 0; i < 7; i++) {
            due(promise, what + ": status(" + (FULL + i) + ")", after[i], before[i] + (FULL + i == by ? 1 : 0));
        }
        changesNothing(promise, what, at, call);
    }

    private static void changesNothing(int promise, String what, Supplier<AccountDay> at, ToLongFunction<AccountDay> call) {
        List<Long> unchanged = SEEN.computeIfAbsent(at, Bench::allOf);
        List<Long> seen = allOf(() -> {
            AccountDay x = at.get();
            call.applyAsLong(x);
            return x;
        });
        due(promise, what + ": changes nothing", seen.equals(unchanged) ? 1 : 0, 1);
    }

    /** The exchanges are as Bench says, so that what is refused there is refused for the reason that is told. */
    private static void exchanges() {
        AccountDay x = begun();
        int[] begun = {OPEN, STANDS, OPEN};
        for (int b = 0; b < 3; b++) due(14, "begun, bargain " + b, x.of(b, 7), begun[b]);
        due(36, "begun, day", x.count(0), 1);
        due(36, "begun, no more bargains", x.count(5) + x.count(6), 3);
        x = settledOnce();
        int[] settled = {SETTLED, SETTLED, VOID, VOID, STANDS, OPEN};
        for (int b = 0; b < 6; b++) due(14, "settled once, bargain " + b, x.of(b, 7), settled[b]);
        int[] options = {1, 2, 0};
        for (int o = 0; o < 3; o++) due(19, "settled once, option " + o, x.optionOf(o, 6), options[o]);
        for (int m = 0; m < 4; m++) due(7, "settled once, man " + m, x.look(m, 0), m == 3 ? 0 : 1);
        due(36, "settled once, day", x.count(0), 13);
        x = full();
        int[] most = {12, 5, 60, 20, 12, 120, 10};
        int[] counts = {3, 4, 5, 9, 10, 11, 15};
        for (int i = 0; i < 7; i++) due(36, "full, count(" + counts[i] + ")", x.count(counts[i]), most[i]);
        x = madeUp(59);
        due(36, "made up, place", x.count(1), 10);
        due(10, "made up, stock 0", x.made(0), 200);
        due(10, "made up, stock 1", x.made(1), 0);
        due(36, "made up, bargains", x.count(5) + x.count(6), 59);
        x = madeUpWithOneDown();
        due(36, "made up with one down, place", x.count(1), 10);
        due(10, "made up with one down", x.made(0), 50);
        due(7, "made up with one down, he", x.look(1, 0), 0);
        due(36, "made up with one down, nobody else", x.count(12), 1);
        due(36, "at the end", atTheEnd().count(0), 700);
    }

    private static void men() {
        refused(2, "coin -1", BEGUN, x -> x.man(-1, 0), NO);
        refused(2, "coin above 100000000", BEGUN, x -> x.man(100000001, 0), NO);
        refused(2, "the least coin", BEGUN, x -> x.man(LEAST, 0), NO);
        refused(2, "the most coin", BEGUN, x -> x.man(MOST, 0), NO);
        refused(2, "pace -1", BEGUN, x -> x.man(0, -1), NO);
        refused(2, "pace above 99", BEGUN, x -> x.man(0, 100), NO);
        refused(2, "the least pace", BEGUN, x -> x.man(0, LEAST), NO);
        refused(2, "the most pace", BEGUN, x -> x.man(0, MOST), NO);
        refused(2, "a thirteenth", NO_ROOM, x -> x.man(0, 0), FULL);
        refused(2, "coin ahead of no room", NO_ROOM, x -> x.man(-1, 0), NO);
        refused(2, "pace ahead of no room", NO_ROOM, x -> x.man(0, 100), NO);
    }

    private static void stocks() {
        refused(3, "a sixth", NO_ROOM, x -> x.stock(), FULL);
        refused(10, "no stock yet", NEW, x -> x.made(0), BEYOND);
        refused(10, "the first that isn't there", BEGUN, x -> x.made(2), BEYOND);
        refused(10, "-1", BEGUN, x -> x.made(-1), BEYOND);
        refused(10, "5", NO_ROOM, x -> x.made(5), BEYOND);
        refused(10, "the least", BEGUN, x -> x.made(LEAST), BEYOND);
        refused(10, "the most", BEGUN, x -> x.made(MOST), BEYOND);
    }

    private static void hold() {
        refused(4, "nobody there yet", NEW, x -> x.hold(0, 0, 0), BEYOND);
        refused(4, "the first man that isn't there", BEGUN, x -> x.hold(4, 0, 1), BEYOND);
        refused(4, "man -1", BEGUN, x -> x.hold(-1, 0, 1), BEYOND);
        refused(4, "man 12", NO_ROOM, x -> x.hold(12, 0, 1), BEYOND);
        refused(4, "the least man", BEGUN, x -> x.hold(LEAST, 0, 1), BEYOND);
        refused(4, "the most man", BEGUN, x -> x.hold(MOST, 0, 1), BEYOND);
        refused(4, "the first stock that isn't there", BEGUN, x -> x.hold(0, 2, 1), BEYOND);
        refused(4, "stock -1", BEGUN, x -> x.hold(1, -1, 1), BEYOND);
        refused(4, "stock 5", NO_ROOM, x -> x.hold(0, 5, 1), BEYOND);
        refused(4, "the least stock", BEGUN, x -> x.hold(0, LEAST, 1), BEYOND);
        refused(4, "the most stock", BEGUN, x -> x.hold(0, MOST, 1), BEYOND);
        refused(4, "n -1", BEGUN, x -> x.hold(0, 0, -1), NO);
        refused(4, "n above 9999", BEGUN, x -> x.hold(0, 0, 10000), NO);
        refused(4, "the least n", BEGUN, x -> x.hold(0, 0, LEAST), NO);
        refused(4, "the most n", BEGUN, x -> x.hold(0, 0, MOST), NO);
        refused(4, "he is DOWN", SETTLED_ONCE, x -> x.hold(3, 0, 1), NO);
        refused(4, "he is DOWN, n 0", SETTLED_ONCE, x -> x.hold(3, 0, 0), NO);
        refused(4, "man ahead of n", BEGUN, x -> x.hold(4, 0, -1), BEYOND);
        refused(4, "stock ahead of n", BEGUN, x -> x.hold(0, 2, 10000), BEYOND);
        refused(4, "stock ahead of DOWN", SETTLED_ONCE, x -> x.hold(3, 2, 1), BEYOND);
    }

    private static void lend() {
        refused(5, "nobody there yet", NEW, x -> x.lend(0, 0), BEYOND);
        refused(5, "the first man that isn't there", BEGUN, x -> x.lend(4, 1), BEYOND);
        refused(5, "man -1", BEGUN, x -> x.lend(-1, 1), BEYOND);
        refused(5, "man 12", NO_ROOM, x -> x.lend(12, 1), BEYOND);
        refused(5, "the least man", BEGUN, x -> x.lend(LEAST, 1), BEYOND);
        refused(5, "the most man", BEGUN, x -> x.lend(MOST, 1), BEYOND);
        refused(5, "coin -1", BEGUN, x -> x.lend(0, -1), NO);
        refused(5, "coin above 100000000", BEGUN, x -> x.lend(0, 100000001), NO);
        refused(5, "the least coin", BEGUN, x -> x.lend(0, LEAST), NO);
        refused(5, "the most coin", BEGUN, x -> x.lend(0, MOST), NO);
        refused(5, "he is DOWN", SETTLED_ONCE, x -> x.lend(3, 1), NO);
        refused(5, "he is DOWN, coin 0", SETTLED_ONCE, x -> x.lend(3, 0), NO);
        refused(5, "man ahead of coin", BEGUN, x -> x.lend(4, -1), BEYOND);
    }

    private static void asks() {
        refused(6, "the first man that isn't there", BEGUN, x -> x.asks(4, 0, 1), BEYOND);
        refused(6, "man -1", BEGUN, x -> x.asks(-1, 0, 1), BEYOND);
        refused(6, "man 12", NO_ROOM, x -> x.asks(12, 0, 1), BEYOND);
        refused(6, "the first stock that isn't there", BEGUN, x -> x.asks(0, 2, 1), BEYOND);
        refused(6, "stock -1", BEGUN, x -> x.asks(1, -1, 1), BEYOND);
        refused(6, "stock 5", NO_ROOM, x -> x.asks(0, 5, 1), BEYOND);
        refused(6, "the least man", BEGUN, x -> x.asks(LEAST, 0, 1), BEYOND);
        refused(6, "the most stock", BEGUN, x -> x.asks(0, MOST, 1), BEYOND);
        refused(6, "price -1", BEGUN, x -> x.asks(0, 0, -1), NO);
        refused(6, "price above 9999", BEGUN, x -> x.asks(0, 0, 10000), NO);
        refused(6, "the least price", BEGUN, x -> x.asks(0, 0, LEAST), NO);
        refused(6, "the most price", BEGUN, x -> x.asks(0, 0, MOST), NO);
        refused(6, "man ahead of price", BEGUN, x -> x.asks(4, 0, -1), BEYOND);
        refused(6, "stock ahead of price", BEGUN, x -> x.asks(0, 2, -1), BEYOND);
    }

    private static void looks() {
        refused(7, "the first man that isn't there", BEGUN, x -> x.look(4, 0), BEYOND);
        refused(7, "man -1", BEGUN, x -> x.look(-1, 0), BEYOND);
        refused(7, "man 12", NO_ROOM, x -> x.look(12, 0), BEYOND);
        refused(7, "the least man", BEGUN, x -> x.look(LEAST, 3), BEYOND);
        refused(7, "the most man", BEGUN, x -> x.look(MOST, 3), BEYOND);
        refused(7, "what -1", BEGUN, x -> x.look(0, -1), NO);
        refused(7, "what 4", BEGUN, x -> x.look(0, 4), NO);
        refused(7, "the least what", BEGUN, x -> x.look(0, LEAST), NO);
        refused(7, "the most what", BEGUN, x -> x.look(0, MOST), NO);
        refused(7, "man ahead of what", BEGUN, x -> x.look(4, 4), BEYOND);
        told(8, "the first man that isn't there", BEGUN, x -> x.coin(4, 0), BEYOND);
        told(8, "man -1", BEGUN, x -> x.coin(-1, 0), BEYOND);
        told(8, "man 12", NO_ROOM, x -> x.coin(12, 0), BEYOND);
        told(8, "the least man", BEGUN, x -> x.coin(LEAST, 2), BEYOND);
        told(8, "the most man", BEGUN, x -> x.coin(MOST, 2), BEYOND);
        told(8, "what -1", BEGUN, x -> x.coin(0, -1), NO);
        told(8, "what 3", BEGUN, x -> x.coin(0, 3), NO);
        told(8, "the least what", BEGUN, x -> x.coin(0, LEAST), NO);
        told(8, "the most what", BEGUN, x -> x.coin(0, MOST), NO);
        told(8, "man ahead of what", BEGUN, x -> x.coin(4, 3), BEYOND);
        told(9, "the first man that isn't there", BEGUN, x -> x.has(4, 0, 0), BEYOND);
        told(9, "man -1", BEGUN, x -> x.has(-1, 0, 0), BEYOND);
        told(9, "man 12", NO_ROOM, x -> x.has(12, 0, 1), BEYOND);
        told(9, "the most man", BEGUN, x -> x.has(MOST, 0, 0), BEYOND);
        told(9, "the first stock that isn't there", BEGUN, x -> x.has(0, 2, 1), BEYOND);
        told(9, "stock -1", BEGUN, x -> x.has(1, -1, 0), BEYOND);
        told(9, "stock 5", NO_ROOM, x -> x.has(0, 5, 0), BEYOND);
        told(9, "the least stock", BEGUN, x -> x.has(1, LEAST, 0), BEYOND);
        told(9, "what -1", BEGUN, x -> x.has(0, 0, -1), NO);
        told(9, "what 4", BEGUN, x -> x.has(0, 0, 4), NO);
        told(9, "the least what", BEGUN, x -> x.has(0, 0, LEAST), NO);
        told(9, "the most what", BEGUN, x -> x.has(0, 0, MOST), NO);
        told(9, "man ahead of what", BEGUN, x -> x.has(4, 0, 4), BEYOND);
        told(9, "stock ahead of what", BEGUN, x -> x.has(0, 2, 4), BEYOND);
    }

    private static void bargain() {
        refused(11, "nobody there yet", NEW, x -> x.bargain(1, 0, 1, 1), BEYOND);
        refused(11, "the first buyer that isn't there", BEGUN, x -> x.bargain(4, 0, 1, 1), BEYOND);
        refused(11, "the first seller that isn't there", BEGUN, x -> x.bargain(400, 0, 1, 1), BEYOND);
        refused(11, "buyer 12", NO_ROOM, x -> x.bargain(12, 0, 1, 1), BEYOND);
        refused(11, "seller 12", NO_ROOM, x -> x.bargain(1200, 0, 1, 1), BEYOND);
        refused(11, "buyer 99", BEGUN, x -> x.bargain(99, 0, 1, 1), BEYOND);
        refused(11, "men -1", BEGUN, x -> x.bargain(-1, 0, 1, 1), BEYOND);
        refused(11, "men -100", BEGUN, x -> x.bargain(-100, 0, 1, 1), BEYOND);
        refused(11, "men -101", BEGUN, x -> x.bargain(-101, 0, 1, 1), BEYOND);
        refused(11, "the least men", BEGUN, x -> x.bargain(LEAST, 0, 1, 1), BEYOND);
        refused(11, "the most men", BEGUN, x -> x.bargain(MOST, 0, 1, 1), BEYOND);
        refused(11, "the first stock that isn't there", BEGUN, x -> x.bargain(1, 2, 1, 1), BEYOND);
        refused(11, "stock -1", BEGUN, x -> x.bargain(1, -1, 1, 1), BEYOND);
        refused(11, "stock 5", NO_ROOM, x -> x.bargain(1, 5, 1, 1), BEYOND);
        refused(11, "the least stock", BEGUN, x -> x.bargain(1, LEAST, 1, 1), BEYOND);
        refused(11, "no shares", BEGUN, x -> x.bargain(1, 0, 0, 1), NO);
        refused(11, "100 shares", BEGUN, x -> x.bargain(1, 0, 100, 1), NO);
        refused(11, "shares -1", BEGUN, x -> x.bargain(1, 0, -1, 1), NO);
        refused(11, "the least shares", BEGUN, x -> x.bargain(1, 0, LEAST, 1), NO);
        refused(11, "the most shares", BEGUN, x -> x.bargain(1, 0, MOST, 1), NO);
        refused(11, "price 0", BEGUN, x -> x.bargain(1, 0, 1, 0), NO);
        refused(11, "price 10000", BEGUN, x -> x.bargain(1, 0, 1, 10000), NO);
        refused(11, "price -1", BEGUN, x -> x.bargain(1, 0, 1, -1), NO);
        refused(11, "the least price", BEGUN, x -> x.bargain(1, 0, 1, LEAST), NO);
        refused(11, "the most price", BEGUN, x -> x.bargain(1, 0, 1, MOST), NO);
        refused(11, "man 0 and himself", BEGUN, x -> x.bargain(0, 0, 1, 1), NO);
        refused(11, "man 3 and himself", BEGUN, x -> x.bargain(303, 0, 1, 1), NO);
        refused(11, "the seller is DOWN", SETTLED_ONCE, x -> x.bargain(301, 0, 1, 1), NO);
        refused(11, "the buyer is DOWN", SETTLED_ONCE, x -> x.bargain(103, 0, 1, 1), NO);
        refused(11, "60 are there", NO_ROOM, x -> x.bargain(1, 0, 1, 1), FULL);
        refused(11, "men ahead of shares", BEGUN, x -> x.bargain(4, 0, 0, 1), BEYOND);
        refused(11, "stock ahead of a man and himself", BEGUN, x -> x.bargain(101, 2, 1, 1), BEYOND);
        refused(11, "stock ahead of no room", NO_ROOM, x -> x.bargain(1, 5, 1, 1), BEYOND);
        refused(11, "shares ahead of no room", NO_ROOM, x -> x.bargain(1, 0, 100, 1), NO);
        refused(11, "price ahead of no room", NO_ROOM, x -> x.bargain(1, 0, 1, 0), NO);
        refused(11, "himself ahead of no room", NO_ROOM, x -> x.bargain(202, 0, 1, 1), NO);
    }

    private static void mark() {
        refused(12, "none there yet", NEW, x -> x.mark(0, 0), BEYOND);
        refused(12, "the first that is free", BEGUN, x -> x.mark(3, 0), BEYOND);
        refused(12, "-1", BEGUN, x -> x.mark(-1, 0), BEYOND);
        refused(12, "59, free", BEGUN, x -> x.mark(59, 0), BEYOND);
        refused(12, "60", NO_ROOM, x -> x.mark(60, 0), BEYOND);
        refused(12, "the least", BEGUN, x -> x.mark(LEAST, 0), BEYOND);
        refused(12, "the most", BEGUN, x -> x.mark(MOST, 0), BEYOND);
        refused(12, "the first man that isn't there", BEGUN, x -> x.mark(0, 4), BEYOND);
        refused(12, "man -1", BEGUN, x -> x.mark(0, -1), BEYOND);
        refused(12, "the least man", BEGUN, x -> x.mark(0, LEAST), BEYOND);
        refused(12, "the most man", BEGUN, x -> x.mark(0, MOST), BEYOND);
        refused(12, "he is neither", BEGUN, x -> x.mark(0, 3), KIND);
        refused(12, "the seller did", BEGUN, x -> x.mark(0, 0), NO);
        refused(12, "it STANDS, the seller", BEGUN, x -> x.mark(1, 1), NO);
        refused(12, "it STANDS, the buyer", BEGUN, x -> x.mark(1, 2), NO);
        refused(12, "it is SETTLED", SETTLED_ONCE, x -> x.mark(0, 1), NO);
        refused(12, "it is VOID and wasn't marked", SETTLED_ONCE, x -> x.mark(2, 0), NO);
        refused(12, "neither, of one that STANDS", BEGUN, x -> x.mark(1, 0), KIND);
        refused(12, "neither, of one that is VOID", SETTLED_ONCE, x -> x.mark(2, 1), KIND);
        refused(12, "no such man, of one that STANDS", BEGUN, x -> x.mark(1, 4), BEYOND);
    }

    private static void clear() {
        refused(13, "none there yet", NEW, x -> x.clear(0), BEYOND);
        refused(13, "the first that is free", SETTLED_ONCE, x -> x.clear(6), BEYOND);
        refused(13, "-1", SETTLED_ONCE, x -> x.clear(-1), BEYOND);
        refused(13, "60", NO_ROOM, x -> x.clear(60), BEYOND);
        refused(13, "the least", SETTLED_ONCE, x -> x.clear(LEAST), BEYOND);
        refused(13, "the most", SETTLED_ONCE, x -> x.clear(MOST), BEYOND);
        Supplier<AccountDay> cleared = () -> {
            AccountDay x = settledOnce();
            x.clear(2);
            return x;
        };
        refused(13, "cleared away", cleared, x -> x.clear(2), BEYOND);
        refused(12, "cleared away", cleared, x -> x.mark(2, 0), BEYOND);
        refused(14, "cleared away", cleared, x -> x.of(2, 0), BEYOND);
        told(24, "cleared away", cleared, x -> x.says(4, 102), BEYOND);
        refused(25, "cleared away", cleared, x -> x.why(4, 102), BEYOND);
        refused(13, "it is OPEN", SETTLED_ONCE, x -> x.clear(5), NO);
        refused(13, "it STANDS", SETTLED_ONCE, x -> x.clear(4), NO);
    }

    private static void of() {
        refused(14, "none there yet", NEW, x -> x.of(0, 0), BEYOND);
        refused(14, "the first that is free", BEGUN, x -> x.of(3, 0), BEYOND);
        refused(14, "-1", BEGUN, x -> x.of(-1, 0), BEYOND);
        refused(14, "60", NO_ROOM, x -> x.of(60, 0), BEYOND);
        refused(14, "the least", BEGUN, x -> x.of(LEAST, 0), BEYOND);
        refused(14, "the most", BEGUN, x -> x.of(MOST, 0), BEYOND);
        refused(14, "what -1", BEGUN, x -> x.of(1, -1), NO);
        refused(14, "what 11", BEGUN, x -> x.of(1, 11), NO);
        refused(14, "the least what", BEGUN, x -> x.of(1, LEAST), NO);
        refused(14, "the most what", BEGUN, x -> x.of(1, MOST), NO);
        refused(14, "number ahead of what", BEGUN, x -> x.of(3, 11), BEYOND);
    }

    private static void knew() {
        told(15, "the first man that isn't there", BEGUN, x -> x.knew(4, 0, 0, 0), BEYOND);
        told(15, "man -1", BEGUN, x -> x.knew(-1, 0, 0, 0), BEYOND);
        told(15, "the most man", BEGUN, x -> x.knew(MOST, 0, 0, 0), BEYOND);
        told(15, "the first stock that isn't there", BEGUN, x -> x.knew(0, 2, 0, 0), BEYOND);
        told(15, "stock -1", BEGUN, x -> x.knew(1, -1, 0, 0), BEYOND);
        told(15, "the least stock", BEGUN, x -> x.knew(1, LEAST, 0, 0), BEYOND);
        told(15, "day -1", BEGUN, x -> x.knew(1, 0, 0, -1), NO);
        told(15, "the day behind the open one", BEGUN, x -> x.knew(1, 0, 0, 2), NO);
        told(15, "the least day", BEGUN, x -> x.knew(1, 0, 0, LEAST), NO);
        told(15, "the most day", BEGUN, x -> x.knew(1, 0, 0, MOST), NO);
        told(15, "account -1", BEGUN, x -> x.knew(1, 0, -1, 0), NO);
        told(15, "man ahead of day", BEGUN, x -> x.knew(4, 0, 0, -1), BEYOND);
        told(15, "stock ahead of day", BEGUN, x -> x.knew(1, 2, 0, 2), BEYOND);
    }

    private static void putOff() {
        refused(16, "the first other that isn't there", MADE_UP, x -> x.putOff(4, 0, 1), BEYOND);
        refused(16, "the first man that isn't there", MADE_UP, x -> x.putOff(400, 0, 1), BEYOND);
        refused(16, "men -1", MADE_UP, x -> x.putOff(-1, 0, 1), BEYOND);
        refused(16, "men -100", MADE_UP, x -> x.putOff(-100, 0, 1), BEYOND);
        refused(16, "the least men", MADE_UP, x -> x.putOff(LEAST, 0, 1), BEYOND);
        refused(16, "the most men", MADE_UP, x -> x.putOff(MOST, 0, 1), BEYOND);
        refused(16, "the first stock that isn't there", MADE_UP, x -> x.putOff(1, 2, 1), BEYOND);
        refused(16, "stock -1", MADE_UP, x -> x.putOff(1, -1, 1), BEYOND);
        refused(16, "n 0", MADE_UP, x -> x.putOff(1, 0, 0), NO);
        refused(16, "n 100", MADE_UP, x -> x.putOff(1, 0, 100), NO);
        refused(16, "n -1", MADE_UP, x -> x.putOff(1, 0, -1), NO);
        refused(16, "the least n", MADE_UP, x -> x.putOff(1, 0, LEAST), NO);
        refused(16, "the most n", MADE_UP, x -> x.putOff(1, 0, MOST), NO);
        refused(16, "a man and himself", MADE_UP, x -> x.putOff(101, 0, 1), NO);
        refused(16, "he is DOWN", ONE_DOWN, x -> x.putOff(100, 0, 1), NO);
        refused(16, "the other is DOWN", ONE_DOWN, x -> x.putOff(1, 0, 1), NO);
        for (int day : new int[] {14, 23, 25, 27}) {
            Supplier<AccountDay> another = () -> {
                AccountDay x = madeUp(1);
                toDay(x, day);
                return x;
            };
            refused(16, "day " + day, another, x -> x.putOff(203, 0, 1), NO);
        }
        refused(16, "MADE is 0", MADE_UP, x -> x.putOff(1, 1, 1), NO);
        refused(16, "just one is free", ONE_FREE, x -> x.putOff(1, 0, 1), FULL);
        refused(16, "none is free", NONE_FREE, x -> x.putOff(1, 0, 1), FULL);
        refused(16, "men ahead of n", MADE_UP, x -> x.putOff(4, 0, 0), BEYOND);
        refused(16, "stock ahead of himself", MADE_UP, x -> x.putOff(101, 2, 1), BEYOND);
        refused(16, "stock ahead of the place", BEGUN, x -> x.putOff(1, 2, 1), BEYOND);
        refused(16, "n ahead of no room", NONE_FREE, x -> x.putOff(1, 0, 100), NO);
        refused(16, "himself ahead of no room", ONE_FREE, x -> x.putOff(101, 0, 1), NO);
        refused(16, "MADE ahead of no room", ONE_FREE, x -> x.putOff(1, 1, 1), NO);
        refused(16, "the place ahead of no room", NO_ROOM, x -> x.putOff(1, 0, 1), NO);
    }

    private static void option() {
        refused(17, "the first taker that isn't there", BEGUN, x -> x.option(4, 0, 10001, 10000), BEYOND);
        refused(17, "the first giver that isn't there", BEGUN, x -> x.option(400, 0, 10001, 10000), BEYOND);
        refused(17, "men -1", BEGUN, x -> x.option(-1, 0, 10001, 10000), BEYOND);
        refused(17, "men -100", BEGUN, x -> x.option(-100, 0, 10001, 10000), BEYOND);
        refused(17, "the most men", BEGUN, x -> x.option(MOST, 0, 10001, 10000), BEYOND);
        refused(17, "the first stock that isn't there", BEGUN, x -> x.option(1, 2, 10001, 10000), BEYOND);
        refused(17, "stock -1", BEGUN, x -> x.option(1, -1, 10001, 10000), BEYOND);
        refused(17, "told: no shares", BEGUN, x -> x.option(1, 0, 9999, 10000), NO);
        refused(17, "told: price 0", BEGUN, x -> x.option(1, 0, 10000, 10000), NO);
        refused(17, "told: 99 shares at 0", BEGUN, x -> x.option(1, 0, 990000, 10000), NO);
        refused(17, "told: 100 shares", BEGUN, x -> x.option(1, 0, 1000001, 10000), NO);
        refused(17, "told: 0", BEGUN, x -> x.option(1, 0, 0, 10000), NO);
        refused(17, "told: -1", BEGUN, x -> x.option(1, 0, -1, 10000), NO);
        refused(17, "told: below 0", BEGUN, x -> x.option(1, 0, -10001, 10000), NO);
        refused(17, "told: the least", BEGUN, x -> x.option(1, 0, LEAST, 10000), NO);
        refused(17, "told: the most", BEGUN, x -> x.option(1, 0, MOST, 10000), NO);
        refused(17, "last: no days", BEGUN, x -> x.option(1, 0, 10001, 9), NO);
        refused(17, "last: 0", BEGUN, x -> x.option(1, 0, 10001, 0), NO);
        refused(17, "last: 41 days", BEGUN, x -> x.option(1, 0, 10001, 410000), NO);
        refused(17, "last: -1", BEGUN, x -> x.option(1, 0, 10001, -1), NO);
        refused(17, "last: below 0", BEGUN, x -> x.option(1, 0, 10001, -10000), NO);
        refused(17, "last: the least", BEGUN, x -> x.option(1, 0, 10001, LEAST), NO);
        refused(17, "last: the most", BEGUN, x -> x.option(1, 0, 10001, MOST), NO);
        refused(17, "a man and himself", BEGUN, x -> x.option(101, 0, 10001, 10000), NO);
        refused(17, "the giver is DOWN", SETTLED_ONCE, x -> x.option(301, 0, 10001, 10000), NO);
        refused(17, "the taker is DOWN", SETTLED_ONCE, x -> x.option(103, 0, 10001, 10000), NO);
        refused(17, "a coin too little", BEGUN, x -> x.option(200, 0, 10001, 11003), NO);
        refused(17, "20 are there", NO_ROOM, x -> x.option(1, 0, 10001, 10000), FULL);
        refused(17, "men ahead of told", BEGUN, x -> x.option(4, 0, 0, 10000), BEYOND);
        refused(17, "stock ahead of last", BEGUN, x -> x.option(1, 2, 10001, 0), BEYOND);
        refused(17, "told ahead of no room", NO_ROOM, x -> x.option(1, 0, 10000, 10000), NO);
        refused(17, "last ahead of no room", NO_ROOM, x -> x.option(1, 0, 10001, 410000), NO);
        refused(17, "himself ahead of no room", NO_ROOM, x -> x.option(0, 0, 10001, 10000), NO);
        refused(17, "coin ahead of no room", NO_ROOM, x -> x.option(1, 0, 10001, 11001), NO);
    }

    private static void declare() {
        refused(18, "none there yet", NEW, x -> x.declare(0), BEYOND);
        refused(18, "the first that isn't there", BEGUN, x -> x.declare(1), BEYOND);
        refused(18, "-1", BEGUN, x -> x.declare(-1), BEYOND);
        refused(18, "20", NO_ROOM, x -> x.declare(20), BEYOND);
        refused(18, "the least", BEGUN, x -> x.declare(LEAST), BEYOND);
        refused(18, "the most", BEGUN, x -> x.declare(MOST), BEYOND);
        refused(18, "it is DECLARED", SETTLED_ONCE, x -> x.declare(0), NO);
        refused(18, "it is OVER", SETTLED_ONCE, x -> x.declare(1), NO);
        refused(18, "60 BARGAINS are there", NO_ROOM, x -> x.declare(0), FULL);
        refused(18, "number ahead of no room", NO_ROOM, x -> x.declare(20), BEYOND);
        Supplier<AccountDay> overAndFull = () -> {
            AccountDay x = exchange(2, 10, 0, 1);
            x.option(1, 0, 10001, 10000);
            x.run(1);
            for (int b = 0; b < 60; b++) x.bargain(1, 0, 1, 1);
            return x;
        };
        refused(18, "OVER ahead of no room", overAndFull, x -> x.declare(0), NO);
        refused(19, "the first that isn't there", BEGUN, x -> x.optionOf(1, 0), BEYOND);
        refused(19, "-1", BEGUN, x -> x.optionOf(-1, 0), BEYOND);
        refused(19, "20", NO_ROOM, x -> x.optionOf(20, 0), BEYOND);
        refused(19, "the least", BEGUN, x -> x.optionOf(LEAST, 0), BEYOND);
        refused(19, "the most", BEGUN, x -> x.optionOf(MOST, 0), BEYOND);
        refused(19, "what -1", BEGUN, x -> x.optionOf(0, -1), NO);
        refused(19, "what 7", BEGUN, x -> x.optionOf(0, 7), NO);
        refused(19, "the least what", BEGUN, x -> x.optionOf(0, LEAST), NO);
        refused(19, "the most what", BEGUN, x -> x.optionOf(0, MOST), NO);
        refused(19, "number ahead of what", BEGUN, x -> x.optionOf(1, 7), BEYOND);
    }

    private static void dividend() {
        refused(20, "the first stock that isn't there", BEGUN, x -> x.dividend(2, 5, 1), BEYOND);
        refused(20, "stock -1", BEGUN, x -> x.dividend(-1, 5, 1), BEYOND);
        refused(20, "the most stock", BEGUN, x -> x.dividend(MOST, 5, 1), BEYOND);
        refused(20, "the day ahead of the open one", BEGUN, x -> x.dividend(0, 0, 1), NO);
        refused(20, "day -1", NO_ROOM, x -> x.dividend(0, -1, 1), NO);
        refused(20, "day 700", BEGUN, x -> x.dividend(0, 700, 1), NO);
        refused(20, "the open one, at the end", THE_END, x -> x.dividend(0, 700, 1), NO);
        refused(20, "the last, gone by", THE_END, x -> x.dividend(0, 699, 1), NO);
        refused(20, "the least day", BEGUN, x -> x.dividend(0, LEAST, 1), NO);
        refused(20, "the most day", BEGUN, x -> x.dividend(0, MOST, 1), NO);
        refused(20, "pence 0", BEGUN, x -> x.dividend(0, 5, 0), NO);
        refused(20, "pence 1000", BEGUN, x -> x.dividend(0, 5, 1000), NO);
        refused(20, "pence -1", BEGUN, x -> x.dividend(0, 5, -1), NO);
        refused(20, "the least pence", BEGUN, x -> x.dividend(0, 5, LEAST), NO);
        refused(20, "the most pence", BEGUN, x -> x.dividend(0, 5, MOST), NO);
        refused(20, "10 wait", NO_ROOM, x -> x.dividend(0, 5, 1), FULL);
        refused(20, "stock ahead of pence", BEGUN, x -> x.dividend(2, 5, 0), BEYOND);
        refused(20, "stock ahead of no room", NO_ROOM, x -> x.dividend(5, 5, 1), BEYOND);
        refused(20, "day ahead of no room", NO_ROOM, x -> x.dividend(0, 700, 1), NO);
        refused(20, "pence ahead of no room", NO_ROOM, x -> x.dividend(0, 5, 0), NO);
    }

    private static void feed() {
        refused(21, "n -1", BEGUN, x -> x.feed(0, -1), BELOW);
        refused(21, "the least n", BEGUN, x -> x.feed(0, LEAST), BELOW);
        refused(21, "n 5", BEGUN, x -> x.feed(0, 5), NO);
        refused(21, "the most n", BEGUN, x -> x.feed(0, MOST), NO);
        refused(21, "a byte more than 120", NO_ROOM, x -> x.feed(0, 1), FULL);
        Supplier<AccountDay> threeLeft = () -> {
            AccountDay x = exchange(1, 0, 0, 1);
            feed(x, "in 1" + " ".repeat(113));
            return x;
        };
        refused(21, "four where three fit: none is taken", threeLeft, x -> x.feed(0x31313131, 4), FULL);
        refused(21, "below 0 ahead of no room", NO_ROOM, x -> x.feed(0, -1), BELOW);
        refused(21, "n ahead of no room", NO_ROOM, x -> x.feed(0, 5), NO);
    }

    private static void rule() {
        refused(23, "from -1", BEGUN, x -> x.rule(-1, 5), NO);
        refused(23, "from the least", BEGUN, x -> x.rule(LEAST, 5), NO);
        refused(23, "to 1001", BEGUN, x -> x.rule(0, 1001), NO);
        refused(23, "to the most", BEGUN, x -> x.rule(0, MOST), NO);
        refused(23, "both beyond", BEGUN, x -> x.rule(LEAST, MOST), NO);
        refused(23, "from is to", BEGUN, x -> x.rule(5, 5), NO);
        refused(23, "from is to, 0", BEGUN, x -> x.rule(0, 0), NO);
        refused(23, "from is to, 1000", BEGUN, x -> x.rule(1000, 1000), NO);
        refused(23, "from behind to", BEGUN, x -> x.rule(6, 5), NO);
        refused(23, "to below 0", BEGUN, x -> x.rule(0, -1), NO);
        refused(23, "from 1000", BEGUN, x -> x.rule(1000, 1001), NO);
        Supplier<AccountDay> twelve = () -> {
            AccountDay x = full();
            x.wipe();
            feed(x, "in 1");
            return x;
        };
        refused(23, "12 are there", twelve, x -> x.rule(0, 1), FULL);
        refused(23, "days ahead of no room", twelve, x -> x.rule(1, 1), NO);
        refused(23, "no room ahead of the FAULT", NO_ROOM, x -> x.rule(0, 1), FULL);
        refused(23, "days ahead of the FAULT", NEW, x -> x.rule(0, 1001), NO);
        faultRefuses();
    }

    /** A FAULT is none of -2 .. -8: no status() counts it. */
    private static void faultRefuses() {
        Supplier<AccountDay> faulty = () -> {
            AccountDay x = begun();
            feed(x, " 2");
            return x;
        };
        refused(23, "a FAULT", faulty, x -> x.rule(0, 1), -15);
        refused(23, "a FAULT at once", NEW, x -> x.rule(0, 1), -10);
    }

    private static void says() {
        for (int who : new int[] {2, 99, -1, 103, 159, 160, 200, LEAST, MOST}) {
            told(24, "who " + who, BEGUN, x -> x.says(0, who), BEYOND);
            refused(25, "who " + who, BEGUN, x -> x.why(0, who), BEYOND);
        }
        for (int who : new int[] {5, 99, 160}) {
            told(24, "who " + who + " where all are there", NO_ROOM, x -> x.says(0, who), BEYOND);
            refused(25, "who " + who + " where all are there", NO_ROOM, x -> x.why(0, who), BEYOND);
        }
        for (int key : new int[] {-1, 6, LEAST, MOST}) {
            told(24, "key " + key, BEGUN, x -> x.says(key, 0), BEYOND);
            refused(25, "key " + key, BEGUN, x -> x.why(key, 0), BEYOND);
            told(24, "key " + key + " of a bargain", BEGUN, x -> x.says(key, 100), BEYOND);
        }
        told(24, "nobody there yet", NEW, x -> x.says(0, 0), BEYOND);
        refused(25, "nobody there yet", NEW, x -> x.why(0, 0), BEYOND);
    }

    private static void run() {
        refused(26, "n -1", BEGUN, x -> x.run(-1), BELOW);
        refused(26, "the least n", BEGUN, x -> x.run(LEAST), BELOW);
        refused(26, "n 0", BEGUN, x -> x.run(0), NO);
        refused(26, "n 29", BEGUN, x -> x.run(29), NO);
        refused(26, "the most n", BEGUN, x -> x.run(MOST), NO);
        refused(26, "day 700 can't be closed", THE_END, x -> x.run(1), FULL);
        Supplier<AccountDay> nearTheEnd = () -> {
            AccountDay x = exchange(2, 10, 0, 1);
            toDay(x, 673);
            return x;
        };
        refused(26, "beyond by one: none goes by", nearTheEnd, x -> x.run(28), FULL);
        refused(26, "below 0 ahead of no room", THE_END, x -> x.run(-1), BELOW);
        refused(26, "n 0 ahead of no room", THE_END, x -> x.run(0), NO);
        refused(26, "n 29 ahead of no room", THE_END, x -> x.run(29), NO);
    }

    private static void passes() {
        refused(27, "no NAMES yet", BEGUN, x -> x.pass(0, 0), MISSING);
        refused(27, "no NAMES ahead of a number beyond", BEGUN, x -> x.pass(-1, 0), MISSING);
        refused(27, "no NAMES ahead of what", BEGUN, x -> x.pass(0, 7), MISSING);
        int passes = settledOnce().count(13);
        refused(27, "behind the last", SETTLED_ONCE, x -> x.pass(passes, 0), BEYOND);
        refused(27, "-1", SETTLED_ONCE, x -> x.pass(-1, 0), BEYOND);
        refused(27, "the least", SETTLED_ONCE, x -> x.pass(LEAST, 0), BEYOND);
        refused(27, "the most", SETTLED_ONCE, x -> x.pass(MOST, 0), BEYOND);
        refused(27, "what -1", SETTLED_ONCE, x -> x.pass(0, -1), NO);
        refused(27, "what 7", SETTLED_ONCE, x -> x.pass(0, 7), NO);
        refused(27, "the least what", SETTLED_ONCE, x -> x.pass(0, LEAST), NO);
        refused(27, "the most what", SETTLED_ONCE, x -> x.pass(0, MOST), NO);
        refused(27, "number ahead of what", SETTLED_ONCE, x -> x.pass(passes, 7), BEYOND);
        refused(28, "no NAMES yet", BEGUN, x -> x.delivery(0, 0), MISSING);
        refused(28, "no NAMES ahead of a number beyond", BEGUN, x -> x.delivery(-1, 0), MISSING);
        refused(28, "no NAMES ahead of what", BEGUN, x -> x.delivery(0, 6), MISSING);
        int deliveries = settledOnce().count(14);
        refused(28, "behind the last", SETTLED_ONCE, x -> x.delivery(deliveries, 0), BEYOND);
        refused(28, "-1", SETTLED_ONCE, x -> x.delivery(-1, 0), BEYOND);
        refused(28, "the least", SETTLED_ONCE, x -> x.delivery(LEAST, 0), BEYOND);
        refused(28, "the most", SETTLED_ONCE, x -> x.delivery(MOST, 0), BEYOND);
        refused(28, "what -1", SETTLED_ONCE, x -> x.delivery(0, -1), NO);
        refused(28, "what 6", SETTLED_ONCE, x -> x.delivery(0, 6), NO);
        refused(28, "the least what", SETTLED_ONCE, x -> x.delivery(0, LEAST), NO);
        refused(28, "the most what", SETTLED_ONCE, x -> x.delivery(0, MOST), NO);
        refused(28, "number ahead of what", SETTLED_ONCE, x -> x.delivery(deliveries, 6), BEYOND);
        refused(27, "NAMES without a PASS", NAMED_ANEW, x -> x.pass(0, 0), BEYOND);
        refused(28, "NAMES without a DELIVERY", NAMED_ANEW, x -> x.delivery(0, 0), BEYOND);
    }

    private static void settled() {
        told(29, "no SETTLING yet", BEGUN, x -> x.settled(0, 0), MISSING);
        told(29, "no SETTLING ahead of a man beyond", BEGUN, x -> x.settled(4, 0), MISSING);
        told(29, "no SETTLING ahead of what", BEGUN, x -> x.settled(0, 5), MISSING);
        Supplier<AccountDay> named = () -> {
            AccountDay x = begun();
            toDay(x, 12);
            return x;
        };
        told(29, "NAMES alone", named, x -> x.settled(0, 0), MISSING);
        told(29, "the first man that isn't there", SETTLED_ONCE, x -> x.settled(4, 0), BEYOND);
        told(29, "man -1", SETTLED_ONCE, x -> x.settled(-1, 0), BEYOND);
        told(29, "man 12", SETTLED_ONCE, x -> x.settled(12, 0), BEYOND);
        told(29, "the least man", SETTLED_ONCE, x -> x.settled(LEAST, 0), BEYOND);
        told(29, "the most man", SETTLED_ONCE, x -> x.settled(MOST, 0), BEYOND);
        told(29, "what -1", SETTLED_ONCE, x -> x.settled(1, -1), NO);
        told(29, "what 5", SETTLED_ONCE, x -> x.settled(0, 5), NO);
        told(29, "the least what", SETTLED_ONCE, x -> x.settled(0, LEAST), NO);
        told(29, "the most what", SETTLED_ONCE, x -> x.settled(0, MOST), NO);
        told(29, "man ahead of what", SETTLED_ONCE, x -> x.settled(4, 5), BEYOND);
    }

    /** So many MEN, the first buys a SHARE of each of the others. */
    private static AccountDay netOfMen(int men) {
        AccountDay x = exchange(12, 0, 0, 1);
        for (int m = 1; m < men; m++) stands(x, 100 * m, 0, 1, 1);
        return x;
    }

    private static void least() {
        refused(30, "no stock yet", NEW, x -> x.least(0, 0), BEYOND);
        refused(30, "the first stock that isn't there", BEGUN, x -> x.least(2, 0), BEYOND);
        refused(30, "stock -1", BEGUN, x -> x.least(-1, 0), BEYOND);
        refused(30, "the most stock", BEGUN, x -> x.least(MOST, 0), BEYOND);
        refused(30, "account -1", BEGUN, x -> x.least(0, -1), NO);
        refused(30, "the least account", BEGUN, x -> x.least(0, LEAST), NO);
        Supplier<AccountDay> eleven = () -> netOfMen(11);
        refused(30, "11 men", eleven, x -> x.least(0, 0), KIND);
        refused(30, "12 men", () -> netOfMen(12), x -> x.least(0, 0), KIND);
        refused(30, "stock ahead of account", BEGUN, x -> x.least(2, -1), BEYOND);
        refused(30, "account ahead of 11 men", eleven, x -> x.least(0, -1), NO);
        refused(30, "stock ahead of 11 men", eleven, x -> x.least(1, 0), BEYOND);
    }

    private static Supplier<AccountDay> withRow(int n) {
        return () -> {
            AccountDay x = begun();
            x.lay(n);
            return x;
        };
    }

    private static void judge() {
        Supplier<AccountDay> torn = () -> {
            AccountDay x = begun();
            x.tear();
            return x;
        };
        refused(31, "the first stock that isn't there", BEGUN, x -> x.judge(2, 0), BEYOND);
        refused(31, "stock -1", BEGUN, x -> x.judge(-1, 0), BEYOND);
        refused(31, "account -1", withRow(3), x -> x.judge(0, -1), NO);
        refused(31, "the least account", withRow(3), x -> x.judge(0, LEAST), NO);
        refused(31, "no row", torn, x -> x.judge(0, 0), MISSING);
        for (int size : new int[] {1, 2, 4, 5, 58, 59}) {
            refused(31, "a row of " + size, withRow(size), x -> x.judge(0, 0), KIND);
        }
        refused(31, "stock ahead of account", BEGUN, x -> x.judge(2, -1), BEYOND);
        refused(31, "stock ahead of no row", torn, x -> x.judge(2, 0), BEYOND);
        refused(31, "account ahead of no row", torn, x -> x.judge(0, -1), NO);
        refused(31, "account ahead of the size", BEGUN, x -> x.judge(0, -1), NO);
        refused(31, "stock ahead of the size", BEGUN, x -> x.judge(2, 0), BEYOND);
    }

    private static void corners() {
        refused(32, "the first stock that isn't there", BEGUN, x -> x.corner(2, 0, 0), BEYOND);
        refused(32, "stock -1", BEGUN, x -> x.corner(-1, 0, 0), BEYOND);
        refused(32, "the first man that isn't there", BEGUN, x -> x.corner(0, 4, 0), BEYOND);
        refused(32, "man -1", BEGUN, x -> x.corner(0, -1, 0), BEYOND);
        refused(32, "the most man", BEGUN, x -> x.corner(0, MOST, 0), BEYOND);
        refused(32, "what -1", BEGUN, x -> x.corner(0, 0, -1), NO);
        refused(32, "what 3", BEGUN, x -> x.corner(0, 0, 3), NO);
        refused(32, "the least what", BEGUN, x -> x.corner(0, 0, LEAST), NO);
        refused(32, "the most what", BEGUN, x -> x.corner(0, 0, MOST), NO);
        refused(32, "stock ahead of what", BEGUN, x -> x.corner(2, 0, 3), BEYOND);
        refused(32, "man ahead of what", BEGUN, x -> x.corner(0, 4, 3), BEYOND);
        told(33, "the first stock that isn't there", BEGUN, x -> x.squeeze(2, 0), BEYOND);
        told(33, "stock -1", BEGUN, x -> x.squeeze(-1, 0), BEYOND);
        told(33, "the first man that isn't there", BEGUN, x -> x.squeeze(0, 4), BEYOND);
        told(33, "man -1", BEGUN, x -> x.squeeze(0, -1), BEYOND);
        told(33, "the least stock", BEGUN, x -> x.squeeze(LEAST, 0), BEYOND);
        told(33, "the most man", BEGUN, x -> x.squeeze(0, MOST), BEYOND);
    }

    private static void otherWays() {
        refused(34, "n -1", BEGUN, x -> x.rolling(0, -1), NO);
        refused(34, "n 29", BEGUN, x -> x.rolling(0, 29), NO);
        refused(34, "the least n", BEGUN, x -> x.rolling(0, LEAST), NO);
        refused(34, "the most n", BEGUN, x -> x.rolling(0, MOST), NO);
        refused(34, "account -1", BEGUN, x -> x.rolling(-1, 0), NO);
        refused(34, "the least account", BEGUN, x -> x.rolling(LEAST, 0), NO);
        refused(35, "account -1", BEGUN, x -> x.clearing(-1), NO);
        refused(35, "the least account", BEGUN, x -> x.clearing(LEAST), NO);
        for (int what : new int[] {-1, 16, LEAST, MOST}) refused(36, "what " + what, BEGUN, x -> x.count(what), NO);
        refused(38, "none kept", SETTLED_ONCE, x -> x.back(), MISSING);
    }

    private static void rows() {
        refused(39, "n -1", BEGUN, x -> x.lay(-1), BELOW);
        refused(39, "the least n", BEGUN, x -> x.lay(LEAST), BELOW);
        refused(39, "n 61", BEGUN, x -> x.lay(61), NO);
        refused(39, "the most n", BEGUN, x -> x.lay(MOST), NO);
        refused(39, "n 61 where 60 are", NO_ROOM, x -> x.lay(61), NO);
        told(40, "no row", NEW, x -> x.set(0, 1), MISSING);
        told(40, "no row ahead of a place beyond", NEW, x -> x.set(-1, 1), MISSING);
        told(42, "no row", NEW, x -> x.row(0), MISSING);
        told(42, "no row ahead of a place beyond", NEW, x -> x.row(-1), MISSING);
        for (int i : new int[] {-1, 4, 59, 60, LEAST, MOST}) {
            told(40, "place " + i + " of 4", BEGUN, x -> x.set(i, 1), BEYOND);
            told(42, "place " + i + " of 4", BEGUN, x -> x.row(i), BEYOND);
        }
        told(40, "place 60 of 60", NO_ROOM, x -> x.set(60, 1), BEYOND);
        told(42, "place 60 of 60", NO_ROOM, x -> x.row(60), BEYOND);
        told(40, "place 0 of none", SETTLED_ONCE, x -> x.set(0, 1), BEYOND);
        told(42, "place 0 of none", SETTLED_ONCE, x -> x.row(0), BEYOND);
    }

    private static void copy() {
        refused(43, "no row", NEW, x -> x.copy(0, 0, 0), MISSING);
        refused(43, "no row ahead of below 0", NEW, x -> x.copy(0, 0, -1), MISSING);
        refused(43, "no row ahead of a place beyond", NEW, x -> x.copy(-1, 0, 0), MISSING);
        refused(43, "n -1", BEGUN, x -> x.copy(1, 2, -1), BELOW);
        refused(43, "the least n", BEGUN, x -> x.copy(1, 2, LEAST), BELOW);
        refused(43, "below 0 ahead of a place beyond", BEGUN, x -> x.copy(-1, 5, -1), BELOW);
        refused(43, "i -1", BEGUN, x -> x.copy(-1, 0, 1), COPY);
        refused(43, "j -1", BEGUN, x -> x.copy(2, -1, 1), COPY);
        refused(43, "i -1, n 0", BEGUN, x -> x.copy(-1, 0, 0), COPY);
        refused(43, "j -1, n 0", BEGUN, x -> x.copy(0, -1, 0), COPY);
        refused(43, "i + n above 4", BEGUN, x -> x.copy(2, 0, 3), COPY);
        refused(43, "j + n above 4", BEGUN, x -> x.copy(0, 2, 3), COPY);
        refused(43, "i above 4, n 0", BEGUN, x -> x.copy(5, 0, 0), COPY);
        refused(43, "j above 4, n 0", BEGUN, x -> x.copy(0, 5, 0), COPY);
        refused(43, "n above 4", BEGUN, x -> x.copy(0, 0, 5), COPY);
        refused(43, "the most n", BEGUN, x -> x.copy(0, 0, MOST), COPY);
        refused(43, "i + n wraps", BEGUN, x -> x.copy(MOST, 0, 1), COPY);
        refused(43, "j + n wraps", BEGUN, x -> x.copy(0, MOST, 1), COPY);
        refused(43, "i + n wraps to 4", BEGUN, x -> x.copy(MOST, 0, 5), COPY);
        refused(43, "the least i", BEGUN, x -> x.copy(LEAST, 0, 1), COPY);
        refused(43, "the least j", BEGUN, x -> x.copy(0, LEAST, 1), COPY);
        refused(43, "one of none", SETTLED_ONCE, x -> x.copy(0, 0, 1), COPY);
        refused(43, "61 of 60", NO_ROOM, x -> x.copy(0, 0, 61), COPY);
    }

    private static void status() {
        for (int by : new int[] {-9, -1, 0, 1, 8, LEAST, MOST}) refused(44, "by " + by, BEGUN, x -> x.status(by), NO);
    }

    public static void main(String[] args) {
        exchanges();
        men();
        stocks();
        hold();
        lend();
        asks();
        looks();
        bargain();
        mark();
        clear();
        of();
        knew();
        putOff();
        option();
        declare();
        dividend();
        feed();
        rule();
        says();
        run();
        passes();
        settled();
        least();
        judge();
        corners();
        otherWays();
        rows();
        copy();
        status();
        end("RefusalsTest");
    }
}
