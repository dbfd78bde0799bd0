/** Each promise by hand: ordinary inputs, the edges that the document names, and wrong inputs. */
public final class PromisesTest extends Bench {
    private static void newObject() {
        AccountDay x = new AccountDay();
        for (int what = 0; what < 16; what++) due(1, "count(" + what + ")", x.count(what), 0);
        for (int by = -8; by <= -2; by++) due(1, "status(" + by + ")", x.status(by), 0);
        due(1, "rule of an empty tape", x.rule(0, 1), -10);
        due(1, "tear()", x.tear(), 0);
        due(1, "back()", x.back(), MISSING);
    }

    private static void men() {
        AccountDay x = new AccountDay();
        due(2, "coin below 0", x.man(-1, 0), NO);
        due(2, "coin too great", x.man(100000001, 0), NO);
        due(2, "pace below 0", x.man(0, -1), NO);
        due(2, "pace too great", x.man(0, 100), NO);
        for (int i = 0; i < 12; i++) due(2, "man", x.man(100000000, 99), i);
        due(2, "thirteenth", x.man(0, 0), FULL);
        due(2, "thirteenth, not as told", x.man(0, 100), NO);
        for (int i = 0; i < 5; i++) due(3, "stock", x.stock(), i);
        due(3, "sixth", x.stock(), FULL);
        due(3, "count(4)", x.count(4), 5);
        due(2, "look(11, 1)", x.look(11, 1), 99);
    }

    private static void holdsAndCoin() {
        AccountDay x = exchange(2, 10, 7, 2);
        due(4, "hold", x.hold(1, 1, 9999), 9999);
        due(4, "hold more", x.hold(1, 1, 1), 10000);
        due(4, "hold nothing", x.hold(1, 0, 0), 0);
        due(4, "too many", x.hold(1, 1, 10000), NO);
        due(4, "below 0", x.hold(1, 1, -1), NO);
        due(4, "no such man", x.hold(2, 1, -1), BEYOND);
        due(4, "no such stock", x.hold(1, 2, 1), BEYOND);
        due(4, "stock below 0", x.hold(1, -1, 1), BEYOND);
        due(5, "lend", x.lend(0, 100000000), 1);
        due(5, "lent", x.coin(0, 0), 100000010);
        due(5, "nothing", x.lend(0, 0), 1);
        due(5, "too much", x.lend(0, 100000001), NO);
        due(5, "below 0", x.lend(0, -1), NO);
        due(5, "no such man", x.lend(-1, -1), BEYOND);
        due(6, "asks", x.asks(0, 1, 9999), 0);
        due(6, "asks again", x.asks(0, 1, 0), 9999);
        due(6, "too dear", x.asks(0, 1, 10000), NO);
        due(6, "below 0", x.asks(0, 1, -1), NO);
        due(6, "no such stock", x.asks(0, 2, -1), BEYOND);
        due(6, "no such man", x.asks(2, 0, 0), BEYOND);
        due(7, "up", x.look(0, 0), 1);
        due(7, "pace", x.look(0, 1), 7);
        due(7, "down on", x.look(0, 2), NONE);
        due(7, "bargains", x.look(0, 3), 0);
        due(7, "what beyond", x.look(0, 4), NO);
        due(7, "what below", x.look(0, -1), NO);
        due(7, "no such man", x.look(2, 4), BEYOND);
        due(8, "no such man", x.coin(2, 0), 0);
        due(8, "what", x.coin(0, 3), 0);
        due(8, "told as BEYOND", x.status(BEYOND), 8);
        due(8, "told as NO", x.status(NO), 9);
        due(9, "hold", x.has(1, 1, 0), 10000);
        due(9, "no such man", x.has(2, 1, 0), 0);
        due(9, "no such stock", x.has(1, 2, 9), 0);
        due(9, "what", x.has(1, 1, 4), 0);
        due(9, "told as BEYOND", x.status(BEYOND), 10);
        due(9, "told as NO", x.status(NO), 10);
        due(10, "made at first", x.made(1), 0);
        due(10, "no such stock", x.made(2), BEYOND);
        due(10, "below 0", x.made(-1), BEYOND);
    }

    private static void bargains() {
        AccountDay x = exchange(3, 1000, 0, 2);
        due(11, "no such buyer", x.bargain(3, 0, 1, 1), BEYOND);
        due(11, "no such seller", x.bargain(300, 0, 1, 1), BEYOND);
        due(11, "men below 0", x.bargain(-1, 0, 1, 1), BEYOND);
        due(11, "men least", x.bargain(Integer.MIN_VALUE, 0, 0, 0), BEYOND);
        due(11, "no such stock", x.bargain(1, 2, 0, 1), BEYOND);
        due(11, "no shares", x.bargain(1, 0, 0, 1), NO);
        due(11, "many shares", x.bargain(1, 0, 100, 1), NO);
        due(11, "no price", x.bargain(1, 0, 1, 0), NO);
        due(11, "great price", x.bargain(1, 0, 1, 10000), NO);
        due(11, "himself", x.bargain(101, 0, 1, 1), NO);
        due(11, "bargain", x.bargain(102, 1, 99, 9999), 0);
        int[] told = {1, 2, 1, 99, 9999, 0, 0, 0, NONE, NONE, 0};
        for (int what = 0; what < 11; what++) due(14, "of(0, " + what + ")", x.of(0, what), told[what]);
        due(14, "what beyond", x.of(0, 11), NO);
        due(14, "what below", x.of(0, -1), NO);
        due(14, "free one", x.of(1, 0), BEYOND);
        due(14, "beyond", x.of(60, 11), BEYOND);
        due(14, "below", x.of(-1, 0), BEYOND);
        x.run(1);
        due(12, "free one", x.mark(1, 0), BEYOND);
        due(12, "no such man", x.mark(0, 3), BEYOND);
        due(12, "neither", x.mark(0, 0), KIND);
        due(12, "buyer", x.mark(0, 2), 0);
        due(12, "again", x.mark(0, 2), NO);
        due(14, "buyer's day", x.of(0, 9), 1);
        due(14, "seller's day", x.of(0, 8), NONE);
        due(9, "an open one is no net", x.has(2, 1, 1), 0);
        due(12, "seller", x.mark(0, 1), 1);
        due(12, "it stands", x.mark(0, 1), NO);
        due(14, "state", x.of(0, 7), 1);
        due(9, "net of the buyer", x.has(2, 1, 1), 99);
        due(9, "net of the seller", x.has(1, 1, 1), -99);
        due(9, "net in the next", x.has(1, 1, 2), 0);
        due(7, "bargains", x.look(2, 3), 1);
        due(13, "it stands", x.clear(0), NO);
        due(13, "free one", x.clear(1), BEYOND);
        int open = x.bargain(1, 0, 1, 1);
        due(13, "it is open", x.clear(open), NO);
        due(7, "open ones, too", x.look(1, 3), 2);
        x.run(2);
        due(14, "void", x.of(open, 7), 3);
        due(7, "void ones not", x.look(1, 3), 1);
        due(12, "void", x.mark(open, 0), NO);
        due(12, "void, neither", x.mark(open, 2), KIND);
        due(13, "clear", x.clear(open), 3);
        due(13, "cleared", x.clear(open), BEYOND);
        due(11, "least free number", x.bargain(1, 0, 1, 1), open);
        for (int b = 2; b < 60; b++) due(11, "number", x.bargain(1, 0, 1, 1), b);
        due(11, "no room", x.bargain(1, 0, 1, 1), FULL);
        due(11, "no room, not as told", x.bargain(1, 0, 1, 0), NO);
    }

    private static void accountsOfBargains() {
        AccountDay x = exchange(2, 1000, 0, 1);
        x.run(9);
        due(11, "place 9", x.of(x.bargain(1, 0, 1, 1), 6), 0);
        x.run(1);
        int b = x.bargain(1, 0, 1, 1);
        due(11, "place 10", x.of(b, 6), 1);
        due(14, "day", x.of(b, 5), 10);
        x.run(4);
        due(11, "place 0", x.of(x.bargain(1, 0, 1, 1), 6), 1);
    }

    private static void known() {
        AccountDay x = exchange(3, 1000, 0, 1);
        int b = x.bargain(1, 0, 7, 1);
        x.mark(b, 0);
        x.run(1);
        x.mark(b, 1);
        x.run(1);
        due(15, "ahead of it", x.knew(1, 0, 0, 0), 0);
        due(15, "that day", x.knew(1, 0, 0, 1), 7);
        due(15, "the seller", x.knew(0, 0, 0, 2), -7);
        due(15, "another account", x.knew(0, 0, 1, 2), 0);
        due(15, "refused by now", x.status(NO) + x.status(BEYOND), 0);
        due(15, "a day to come", x.knew(0, 0, 0, 3), 0);
        due(15, "a day below 0", x.knew(0, 0, 0, -1), 0);
        due(15, "told as NO", x.status(NO), 2);
        due(15, "no such man", x.knew(3, 0, 0, 9), 0);
        due(15, "no such stock", x.knew(0, 1, 0, 0), 0);
        due(15, "told as BEYOND", x.status(BEYOND), 2);
        x.run(11);
        due(15, "settled", x.of(b, 7), 2);
        due(15, "settled ones not", x.knew(1, 0, 0, 1), 0);
    }

    private static void putOffs() {
        AccountDay x = exchange(3, 1000, 0, 2);
        stands(x, 1, 0, 5, 200);
        due(16, "another place", x.putOff(1, 0, 1), NO);
        x.run(10);
        due(16, "no such men", x.putOff(3, 0, 0), BEYOND);
        due(16, "no such stock", x.putOff(1, 2, 1), BEYOND);
        due(16, "none", x.putOff(1, 0, 0), NO);
        due(16, "too many", x.putOff(1, 0, 100), NO);
        due(16, "himself", x.putOff(101, 0, 1), NO);
        due(16, "not made", x.putOff(1, 1, 1), NO);
        rule(x, "rate 151");
        due(16, "put off", x.putOff(102, 0, 5), 2);
        int[] now = {1, 2, 0, 5, 200, 10, 0, 1, 10, 10, 1};
        int[] later = {2, 1, 0, 5, 203, 10, 1, 1, 10, 10, 1};
        for (int what = 0; what < 11; what++) {
            due(16, "of the first " + what, x.of(1, what), now[what]);
            due(16, "of the second " + what, x.of(2, what), later[what]);
        }
        rule(x, "rate -151");
        due(16, "at a rate below 0, cut", x.of(x.putOff(102, 0, 1), 4), 197);
        rule(x, "rate 0-10000");
        due(16, "1 at least", x.of(x.putOff(102, 0, 1), 4), 1);
        rule(x, "rate 99999*9999");
        due(16, "9999 at most", x.of(x.putOff(102, 0, 1), 4), 9999);
        rule(x, "rate shares+price+marks");
        due(16, "of a stock alone", x.of(x.putOff(102, 0, 1), 4), 200);
        for (int i = 11; i < 59; i++) x.bargain(1, 0, 1, 1);
        due(16, "just one free", x.putOff(102, 0, 1), FULL);
        due(16, "nothing entered", x.of(59, 0), BEYOND);
        due(16, "full, not as told", x.putOff(102, 0, 0), NO);
    }

    private static void putOffIsNotMade() {
        AccountDay x = exchange(2, 1000, 0, 1);
        stands(x, 1, 0, 1, 50);
        x.run(10);
        rule(x, "rate 10000");
        x.putOff(1, 0, 1);
        x.run(14);
        due(26, "made stays", x.made(0), 50);
    }

    private static void options() {
        AccountDay x = exchange(3, 100, 0, 2);
        due(17, "no such men", x.option(3, 0, 0, 0), BEYOND);
        due(17, "no such stock", x.option(1, 2, 10001, 10000), BEYOND);
        due(17, "no shares", x.option(1, 0, 9999, 10000), NO);
        due(17, "100 shares", x.option(1, 0, 1000001, 10000), NO);
        due(17, "no price", x.option(1, 0, 10000, 10000), NO);
        due(17, "told below 0", x.option(1, 0, -10001, 10000), NO);
        due(17, "no days", x.option(1, 0, 10001, 5), NO);
        due(17, "41 days", x.option(1, 0, 10001, 410000), NO);
        due(17, "last below 0", x.option(1, 0, 10001, -10000), NO);
        due(17, "himself", x.option(101, 0, 10001, 10000), NO);
        due(17, "too little coin", x.option(1, 0, 10001, 10101), NO);
        due(17, "option", x.option(102, 1, 990000 + 9999, 30100), 0);
        due(17, "premium paid", x.coin(1, 0), 0);
        due(17, "premium got", x.coin(2, 0), 200);
        int[] told = {1, 2, 1, 99, 9999, 2, 0};
        for (int what = 0; what < 7; what++) due(19, "optionOf " + what, x.optionOf(0, what), told[what]);
        due(19, "what", x.optionOf(0, 7), NO);
        due(19, "what below", x.optionOf(0, -1), NO);
        due(19, "beyond", x.optionOf(1, 7), BEYOND);
        due(19, "below", x.optionOf(-1, 0), BEYOND);
        x.option(102, 1, 20003, 30000);
        x.option(102, 1, 20003, 400000);
        due(19, "40 days", x.optionOf(2, 5), 39);
        x.run(2);
        due(18, "on the last day", x.declare(0), 0);
        int[] bargain = {2, 1, 1, 99, 9999, 2, 0, 1, 2, 2, 0};
        for (int what = 0; what < 11; what++) due(18, "of " + what, x.of(0, what), bargain[what]);
        due(19, "declared", x.optionOf(0, 6), 1);
        due(18, "again", x.declare(0), NO);
        x.run(1);
        due(19, "over", x.optionOf(1, 6), 2);
        due(18, "over", x.declare(1), NO);
        due(18, "beyond", x.declare(3), BEYOND);
        due(18, "below", x.declare(-1), BEYOND);
        for (int i = 3; i < 20; i++) due(17, "number", x.option(102, 1, 10001, 10000), i);
        due(17, "no room", x.option(102, 1, 10001, 10000), FULL);
        due(17, "no room, not as told", x.option(102, 1, 10001, 5), NO);
        for (int i = 1; i < 60; i++) x.bargain(1, 0, 1, 1);
        due(18, "no room", x.declare(2), FULL);
        due(18, "still open", x.optionOf(2, 6), 0);
    }

    private static void dividends() {
        AccountDay x = exchange(3, 100, 0, 2);
        due(20, "no such stock", x.dividend(2, 0, 0), BEYOND);
        due(20, "no pence", x.dividend(0, 0, 0), NO);
        due(20, "many pence", x.dividend(0, 0, 1000), NO);
        due(20, "day 700", x.dividend(0, 700, 1), NO);
        x.hold(0, 0, 10);
        x.hold(1, 1, 10);
        stands(x, 102, 0, 4, 50);
        stands(x, 201, 0, 3, 50);
        x.run(1);
        stands(x, 102, 0, 9, 50);
        due(20, "a day gone by", x.dividend(0, 0, 1), NO);
        due(20, "today", x.dividend(0, 1, 5), 1);
        due(20, "the last", x.dividend(1, 699, 999), 2);
        x.run(1);
        due(20, "paid to holders", x.coin(0, 0), 150);
        due(20, "of that stock", x.coin(1, 0), 100);
        due(8, "extra of what was made ahead of it", x.coin(1, 2), 20);
        due(8, "extra, the other way", x.coin(2, 2), 15);
        due(36, "still waits", x.count(15), 1);
        rule(x, "div 0 if buyer=1");
        x.dividend(0, 2, 1);
        x.run(1);
        due(26, "by the rule div", x.coin(1, 2), 33);
        due(26, "not by the rule div", x.coin(2, 2), 15);
        for (int i = 2; i <= 10; i++) due(20, "waits", x.dividend(0, 500, 1), i);
        due(20, "10 wait", x.dividend(0, 500, 1), FULL);
        due(20, "10 wait, not as told", x.dividend(0, 500, 0), NO);
        x.run(10);
        // 1 hasn't the 10 SHARES that 2 gets
        due(29, "to the market alone", x.settled(1, 0), 10 * 50);
        due(29, "extra is due, the rest", x.settled(2, 0), 10 * 50 - 33 + 15);
        due(26, "extra is over", x.coin(1, 2), 0);
    }

    private static void tape() {
        AccountDay x = new AccountDay();
        due(21, "below", x.feed(0, -1), BELOW);
        due(21, "above", x.feed(0, 5), NO);
        due(21, "none", x.feed(7, 0), 0);
        due(21, "four", x.feed(('d' << 24) + ('i' << 16) + ('v' << 8) + '1', 4), 4);
        due(21, "one", x.feed(0x31313131, 1), 5);
        due(22, "wipe", x.wipe(), 5);
        due(22, "again", x.wipe(), 0);
        for (int i = 1; i <= 30; i++) due(21, "fed", x.feed(0x20202020, 4), 4 * i);
        due(21, "full", x.feed(0, 1), FULL);
        due(21, "full, none", x.feed(0, 0), 120);
        due(23, "too early at its end", x.rule(0, 1), -130);
        due(36, "stays", x.count(11), 120);
        x.wipe();
        x.feed(0, 1);
        for (int i = 0; i < 29; i++) x.feed(0, 4);
        due(21, "beyond by one", x.feed(0, 4), FULL);
        due(21, "just fits", x.feed(0, 3), 120);
    }

    private static void rules() {
        AccountDay x = exchange(2, 0, 0, 1);
        feed(x, "rate 1");
        due(23, "from below 0", x.rule(-1, 5), NO);
        due(23, "to beyond", x.rule(0, 1001), NO);
        due(23, "not ahead", x.rule(5, 5), NO);
        due(23, "behind", x.rule(6, 5), NO);
        due(23, "stays", x.count(11), 6);
        due(23, "rule", x.rule(999, 1000), 0);
        due(23, "empty then", x.count(11), 0);
        due(25, "not in force", x.why(0, 0), NONE);
        due(24, "not in force", x.says(0, 0), 0);
        due(23, "from today", rule(x, "hour 7", 0, 2), 1);
        due(23, "greater", rule(x, "hour 8 if day<1", 0, 1000), 2);
        due(24, "the greatest", x.says(1, 0), 8);
        due(25, "the greatest", x.why(1, 0), 2);
        x.run(1);
        due(24, "its if is 0", x.says(1, 0), 7);
        due(25, "its if is 0", x.why(1, 0), 1);
        x.run(1);
        due(24, "over", x.says(1, 0), 120);
        int[] without = {0, 120, 0, 0, 0, 1};
        for (int key = 0; key < 6; key++) due(24, "without " + key, x.says(key, 0), without[key]);
        due(24, "no such key", x.says(6, 0), 0);
        due(24, "key below 0", x.says(-1, 0), 0);
        due(24, "no such stock", x.says(0, 1), 0);
        due(24, "no such bargain", x.says(0, 100), 0);
        due(24, "told as BEYOND", x.status(BEYOND), 4);
        due(25, "no such key", x.why(6, 0), BEYOND);
        due(25, "no such stock", x.why(0, -1), BEYOND);
        due(25, "no such bargain", x.why(0, 160), BEYOND);
        for (int i = 3; i < 12; i++) due(23, "number", rule(x, "in 1"), i);
        due(23, "no room", rule(x, "in 1"), FULL);
        due(23, "no room ahead of a fault", rule(x, "in"), FULL);
        due(23, "days ahead of no room", x.rule(1, 1), NO);
    }

    private static void whatRulesSay() {
        due(24, "sum and terms", says("rate 2+3*4-10/3%2"), 13);
        due(24, "from the left", says("rate 100-10-1"), 89);
        due(24, "cut", says("rate -7/2"), -3);
        due(24, "rest", says("rate -7%3"), -1);
        due(24, "by 0", says("rate 7/0+7%0"), 0);
        due(24, "wraps", says("rate 65536*65536+65536*32768"), Integer.MIN_VALUE);
        due(24, "the least by -1", says("rate 65536*32768/-1"), Integer.MIN_VALUE);
        due(24, "or and", says("rate 1 or 0 and 0"), 1);
        due(24, "brackets", says("rate (1 or 0) and 0"), 0);
        due(24, "truth is 1", says("rate 5 and -3"), 1);
        due(24, "not takes the comparison", says("rate not 1=2"), 1);
        due(24, "not not", says("rate not not 9"), 1);
        due(24, "not ends at and", says("rate not 1 and 0"), 0);
        due(24, "less", says("rate 1+1<3"), 1);
        due(24, "greater", says("rate 3>3"), 0);
        due(24, "minus of one", says("rate --5-3"), 2);
        due(24, "minus binds most", says("rate -5%3*2"), -4);
        due(24, "no blanks", says("rate1+stock"), 2);
        due(24, "names of a stock", says("rate stock*1000+men*100+day*10+place+made"), 1300);
        due(24, "of no bargain", says("rate shares+price+seller+buyer+marks"), 0);
        AccountDay x = exchange(4, 0, 0, 3);
        rule(x, "good shares*10000+price*100+seller*10+buyer+(marks+stock*10)*1000*1000");
        int b = x.bargain(302, 2, 5, 7);
        due(24, "of a bargain", x.says(4, 100 + b), 20050732);
        x.mark(b, 2);
        due(24, "the buyer's mark", x.says(4, 100 + b), 22050732);
        x.mark(b, 3);
        due(24, "both marks", x.says(4, 100 + b), 23050732);
        due(25, "of a bargain", x.why(4, 100 + b), 0);
        rule(x, "in day*100+place");
        x.run(16);
        due(24, "day and place", x.says(3, 0), 1602);
    }

    private static void faults() {
        due(23, "none", fault(""), 0);
        due(23, "blanks", fault("   "), 3);
        due(23, "no key", fault("  1"), 2);
        due(23, "a key in it", fault("rate rate"), 5);
        due(23, "another word", fault("rate foo"), 5);
        due(23, "a longer word", fault("rate stocks"), 5);
        due(23, "a part of a word", fault("rat 1"), 0);
        due(23, "all letters are a word's", fault("ratez 1"), 0);
        due(23, "a letter behind a number", fault("rate 1a"), 6);
        due(23, "ends with blanks", fault("rate 1 +  "), 10);
        due(23, "two ones", fault("rate 1 1"), 7);
        due(23, "5 digits", rule(exchange(1, 0, 0, 1), "rate 99999"), 0);
        due(23, "6 digits", fault("rate 1+000001"), 7);
        due(23, "a byte that begins none", fault("rate 1 & 2"), 7);
        due(23, "a great letter", fault("Rate 1"), 0);
        due(23, "a byte above 127", fault("rate " + (char) 233), 5);
        due(23, "compared twice", fault("rate 1<2<3"), 8);
        due(23, "not in a sum", fault("rate 1+not 2"), 7);
        due(23, "minus not", fault("rate -not 2"), 6);
        due(23, "open bracket", fault("rate (1"), 7);
        due(23, "if in brackets", fault("rate (1 if 2)"), 8);
        due(23, "two ifs", fault("rate 1 if 2 if 3"), 12);
        due(23, "if without", fault("rate 1 if"), 9);
        due(23, "bracket too many", fault("rate 1)"), 6);
        due(23, "nothing in brackets", fault("rate ()"), 6);
        due(23, "sign first", fault("rate *1"), 5);
        due(23, "a name as key", fault("stock 1"), 0);
        due(23, "seven brackets", fault("rate (((((((1"), 11);
        due(23, "seven minus", fault("rate -------1"), 11);
        due(23, "seven nots", fault("in not not not not not not not 1"), 27);
        due(23, "seven of all", fault("in not(-(not(-1"), 13);
        due(23, "seven of all, the last a minus", fault("in not(-(not 1-(-1"), 16);
        due(23, "six and six", rule(exchange(1, 0, 0, 1), "in ------1-------1"), 0);
        due(23, "six and seven", fault("in ------1--------1"), 17);
        due(23, "six, ended, six", rule(exchange(1, 0, 0, 1), "in ------1-(-----1)"), 0);
        due(23, "six nots, ended", rule(exchange(1, 0, 0, 1), "in not not not not not not 1 and not not 1"), 0);
        due(23, "a minus while 6 are open", rule(exchange(1, 0, 0, 1), "in ((((((1-1))))))"), 0);
        due(23, "a not while 6 are open", fault("in ((((((not 1))))))"), 9);
    }

    private static void days() {
        AccountDay x = exchange(2, 0, 0, 1);
        due(26, "below 0", x.run(-1), BELOW);
        due(26, "none", x.run(0), NO);
        due(26, "too many", x.run(29), NO);
        for (int i = 0; i < 24; i++) due(26, "run", x.run(28), 0);
        due(36, "day", x.count(0), 672);
        due(26, "beyond, not as told", x.run(29), NO);
        x.run(1);
        due(26, "beyond", x.run(28), FULL);
        due(26, "the last", x.run(27), 0);
        due(36, "the last day", x.count(0), 700);
        due(36, "its place", x.count(1), 0);
        due(36, "its account", x.count(2), 50);
        due(26, "no more", x.run(1), FULL);
        due(20, "no day left", x.dividend(0, 700, 1), NO);
        due(36, "below", x.count(-1), NO);
        due(36, "above", x.count(16), NO);
    }

    private static void goodOrVoid() {
        AccountDay x = exchange(3, 1000, 0, 1);
        rule(x, "good marks=2");
        int bySeller = x.bargain(1, 0, 1, 10);
        x.mark(bySeller, 0);
        int byBuyer = x.bargain(1, 0, 1, 10);
        x.mark(byBuyer, 1);
        x.run(1);
        due(26, "not on its own day", x.of(bySeller, 7), 0);
        int today = x.bargain(1, 0, 1, 10);
        x.run(1);
        due(26, "void", x.of(bySeller, 7), 3);
        due(26, "stands", x.of(byBuyer, 7), 1);
        due(26, "who hadn't marked it", x.of(byBuyer, 8), 1);
        due(26, "who had", x.of(byBuyer, 9), 0);
        due(26, "made on that day", x.of(today, 7), 0);
        due(36, "open", x.count(5), 1);
        due(36, "stand", x.count(6), 1);
        due(36, "void", x.count(8), 1);
    }

    private static void makingUp() {
        AccountDay x = exchange(2, 1000, 0, 2);
        stands(x, 1, 0, 1, 30);
        x.run(2);
        stands(x, 1, 0, 1, 31);
        stands(x, 1, 0, 1, 32);
        x.bargain(1, 0, 1, 33);
        x.run(7);
        due(10, "ahead of place 9's close", x.made(0), 0);
        x.run(1);
        due(10, "the last made, of like days the greatest number", x.made(0), 32);
        due(10, "another stock", x.made(1), 0);
        x.run(14);
        due(10, "stays", x.made(0), 32);
    }

    /** 0 sells to 1, 1 sells to 2 in two parts. */
    private static AccountDay chain() {
        AccountDay x = new AccountDay();
        x.man(5000, 20);
        x.man(5000, 30);
        x.man(5000, 40);
        x.stock();
        x.stock();
        stands(x, 1, 1, 10, 50);
        stands(x, 102, 1, 4, 50);
        stands(x, 102, 1, 6, 50);
        return x;
    }

    private static void tickets() {
        AccountDay x = chain();
        due(27, "none yet", x.pass(0, 0), MISSING);
        due(28, "none yet", x.delivery(0, 9), MISSING);
        rule(x, "hour 69");
        x.run(11);
        due(27, "none yet", x.pass(0, 0), MISSING);
        x.run(1);
        int[][] passes = {{1, 2, 1, 2, 4, 40, NONE}, {1, 2, 1, 2, 6, 40, NONE}, {1, 1, 0, 2, 4, 70, 1}, {1, 1, 0, 2, 6, 70, 1}};
        for (int i = 0; i < 4; i++) {
            for (int what = 0; what < 7; what++) due(27, "pass(" + i + ", " + what + ")", x.pass(i, what), passes[i][what]);
        }
        int[][] deliveries = {{1, 0, 2, 4, 70, 1}, {1, 0, 2, 6, 70, 1}};
        for (int i = 0; i < 2; i++) {
            for (int what = 0; what < 6; what++) {
                due(28, "delivery(" + i + ", " + what + ")", x.delivery(i, what), deliveries[i][what]);
            }
        }
        due(27, "what", x.pass(0, 7), NO);
        due(27, "what below", x.pass(0, -1), NO);
        due(27, "beyond", x.pass(4, 7), BEYOND);
        due(27, "below", x.pass(-1, 0), BEYOND);
        due(28, "what", x.delivery(0, 6), NO);
        due(28, "beyond", x.delivery(2, 6), BEYOND);
        due(36, "passes", x.count(13), 4);
        due(36, "deliveries", x.count(14), 2);
        x.run(14);
        due(27, "anew", x.pass(0, 0), BEYOND);
        due(28, "anew", x.delivery(0, 0), BEYOND);
    }

    private static void lateAtTheHour() {
        AccountDay x = chain();
        rule(x, "hour 70");
        x.run(12);
        due(27, "comes at the hour", x.pass(2, 6), NONE);
        x = chain();
        rule(x, "hour 39");
        x.run(12);
        due(27, "the name himself", x.pass(0, 6), 2);
        due(27, "the first who was", x.pass(2, 6), 2);
        due(28, "the first who was", x.delivery(0, 5), 2);
        x = chain();
        rule(x, "hour 40");
        x.run(12);
        due(27, "has it at the hour", x.pass(2, 6), 1);
        x = chain();
        rule(x, "hour -1");
        x.run(12);
        due(27, "begun later than the hour", x.pass(2, 6), NONE);
    }

    /** One SHARE from 2 by 1 and 0 to 3; its name goes around between 0 and 1, who sold 396 to one another. */
    private static void manyPasses() {
        AccountDay x = exchange(4, 1000000, 1, 1);
        for (int i = 0; i < 4; i++) {
            stands(x, 1, 0, 99, 10);
            stands(x, 100, 0, 99, 10);
        }
        stands(x, 201, 0, 1, 10);
        stands(x, 100, 0, 1, 10);
        stands(x, 3, 0, 1, 10);
        x.run(12);
        due(36, "all passes", x.count(13), 1 + 397 + 396 + 1);
        due(36, "all deliveries", x.count(14), 1);
        due(27, "300 are noted", x.pass(299, 5), 300);
        due(27, "no more", x.pass(300, 0), BEYOND);
        due(28, "the minute", x.delivery(0, 4), 795);
        due(28, "from", x.delivery(0, 1), 2);
        due(28, "name", x.delivery(0, 2), 3);
    }

    private static void ways() {
        AccountDay x = exchange(4, 0, 0, 1);
        stands(x, 3, 0, 2, 10);
        stands(x, 103, 0, 3, 10);
        stands(x, 102, 0, 1, 10);
        x.run(12);
        // 2's name first, then 3's: 3 asks for 2 of 0 and 3 of 1
        due(27, "by numbers", x.pass(0, 3), 2);
        due(27, "the next", x.pass(1, 3), 3);
        due(27, "to the seller of the lesser number", x.pass(1, 2), 0);
        due(27, "its shares", x.pass(1, 4), 2);
        due(27, "then the other", x.pass(2, 2), 1);
        due(28, "in the row's order", x.delivery(0, 1), 1);
        due(28, "then", x.delivery(1, 1), 0);
        due(28, "last", x.delivery(2, 3), 3);
    }

    private static void settling() {
        AccountDay x = chain();
        due(29, "none yet", x.settled(9, 9), 0);
        due(29, "told as MISSING", x.status(MISSING), 1);
        rule(x, "hour 69");
        rule(x, "late 15");
        rule(x, "in 30");
        x.hold(0, 1, 5);
        x.run(12);
        due(29, "none yet", x.settled(0, 0), 0);
        x.run(1);
        // 2 owes 0 500 for the shares; 0 hasn't 5 of them: 5 * 50 * 130 / 100; 1 is late: 4 * 50 * 15 / 100 and 6 * ...
        due(29, "dues of 0", x.settled(0, 0), 325);
        due(29, "to the market", x.settled(0, 3), 325);
        due(29, "bought in", x.settled(0, 4), 5);
        due(29, "got", x.settled(0, 2), 500);
        due(29, "dues of who was late", x.settled(1, 0), 75);
        due(29, "paid", x.settled(1, 1), 75);
        due(29, "dues of 2", x.settled(2, 0), 500);
        due(29, "got by 2", x.settled(2, 2), 75);
        due(8, "coin of 0", x.coin(0, 0), 5175);
        due(8, "coin of 1", x.coin(1, 0), 4925);
        due(8, "coin of 2", x.coin(2, 0), 4575);
        due(9, "hold of 0", x.has(0, 1, 0), 0);
        due(9, "hold of 2", x.has(2, 1, 0), 10);
        due(29, "no such man", x.settled(3, 9), 0);
        due(29, "told as BEYOND", x.status(BEYOND), 1);
        due(29, "what", x.settled(0, 5), 0);
        due(29, "what below", x.settled(0, -1), 0);
        due(29, "told as NO", x.status(NO), 2);
        due(36, "settled", x.count(7), 3);
        x.man(7, 7);
        due(29, "who came later", x.settled(3, 0), 0);
    }

    private static void percents() {
        for (int i = 0; i < 4; i++) {
            AccountDay x = chain();
            rule(x, "hour 69");
            rule(x, i % 2 == 0 ? "late 2000" : "late -1");
            rule(x, i < 2 ? "in 1001" : "in -50");
            x.lend(0, 100000);
            x.run(13);
            due(29, "late, 0 to 1000", x.settled(1, 0), i % 2 == 0 ? 5000 : 0);
            due(29, "in, 0 to 1000", x.settled(0, 3), i < 2 ? 5500 : 500);
        }
        AccountDay x = chain();
        rule(x, "hour 39");
        rule(x, "late 100");
        x.run(13);
        due(29, "nobody owes himself", x.settled(2, 0), 500);
    }

    private static void hammering() {
        AccountDay x = exchange(5, 0, 0, 2);
        stands(x, 2, 0, 10, 60);
        stands(x, 102, 0, 10, 70);
        x.hold(0, 0, 10);
        x.hold(1, 0, 5);
        x.lend(2, 700);
        x.run(10);
        rule(x, "rate 1000");
        int lost = stands(x, 203, 0, 10, 60);
        int gained = stands(x, 204, 0, 10, 80);
        int open = x.bargain(402, 1, 3, 9);
        x.option(203, 0, 10001, 200000);
        x.option(402, 0, 10001, 200000);
        x.option(403, 0, 10001, 200000);
        x.run(3);
        // MADE 70: 0 owes 100 to 2, 2 owes 700 and 700: the rest 600 and 700; 1 hasn't 5: owes the market 350
        due(29, "dues of 2", x.settled(2, 0), 1300);
        due(29, "paid in parts, each cut", x.settled(2, 1), 700 * 600 / 1300 + 700 * 700 / 1300);
        due(29, "dues of 1", x.settled(1, 0), 350);
        due(29, "paid from what he got", x.settled(1, 1), 350);
        due(29, "coin of 0", x.coin(0, 0), 323);
        due(29, "coin of 1", x.coin(1, 0), 376 - 350);
        due(29, "cut", x.coin(2, 0), 1);
        due(7, "down", x.look(2, 0), 0);
        due(7, "on", x.look(2, 2), 12);
        due(36, "down", x.count(12), 1);
        due(9, "the name has all", x.has(2, 0, 0), 20);
        due(9, "who delivered what he had", x.has(1, 0, 0), 0);
        due(14, "void", x.of(lost, 7), 3);
        due(14, "void", x.of(gained, 7), 3);
        due(14, "an open one, too", x.of(open, 7), 3);
        due(8, "lost by a buyer", x.coin(3, 1), 100);
        due(8, "lost by a seller, not by a buyer above made", x.coin(4, 1), 0);
        due(19, "giver down", x.optionOf(0, 6), 2);
        due(19, "taker down", x.optionOf(1, 6), 2);
        due(19, "neither", x.optionOf(2, 6), 0);
        due(4, "he is down", x.hold(2, 0, 1), NO);
        due(5, "he is down", x.lend(2, 1), NO);
        due(6, "he may ask", x.asks(2, 0, 1), 0);
        due(11, "one is down", x.bargain(2, 0, 1, 1), NO);
        due(11, "the other is down", x.bargain(201, 0, 1, 1), NO);
        due(17, "one is down", x.option(2, 0, 10001, 10000), NO);
        toPlace(x, 10);
        due(16, "one is down", x.putOff(2, 0, 1), NO);
        x.dividend(0, x.count(0), 10);
        x.run(1);
        due(26, "no dividend for him", x.coin(2, 0), 1);
    }

    private static void lostByBothDown() {
        AccountDay x = exchange(4, 0, 0, 2);
        stands(x, 1, 0, 1, 50);
        stands(x, 302, 0, 1, 50);
        x.hold(0, 0, 1);
        x.hold(3, 0, 1);
        x.run(10);
        int seller = stands(x, 102, 1, 3, 9);
        int buyer = stands(x, 201, 0, 2, 9);
        due(26, "two became down", x.run(3), 2);
        due(8, "of the first nothing", x.coin(1, 1), 0);
        // 1 is DOWN first: 2 would have gained nothing as buyer at MADE 0, and loses as a seller at MADE 50
        due(8, "of the other", x.coin(2, 1), 0);
        due(14, "void", x.of(seller, 7) + x.of(buyer, 7), 6);
        x = exchange(4, 0, 0, 2);
        stands(x, 1, 0, 1, 50);
        stands(x, 302, 0, 1, 50);
        x.hold(0, 0, 1);
        x.hold(3, 0, 1);
        x.run(10);
        stands(x, 102, 0, 2, 9);
        stands(x, 201, 1, 3, 9);
        x.run(3);
        due(8, "as buyer and as seller", x.coin(2, 1), 2 * 41 + 3 * 9);
        due(8, "counted once", x.coin(1, 1), 0);
    }

    /** Each owes the next 989802, and one COIN goes around: three rounds for each turn, 1000 rounds. */
    private static void thousandRounds() {
        AccountDay x = exchange(5, 0, 0, 1);
        x.lend(0, 1);
        x.lend(4, 1);
        stands(x, 1, 0, 99, 9999);
        stands(x, 102, 0, 99, 9999);
        stands(x, 200, 0, 99, 9999);
        x.hold(3, 0, 1);
        stands(x, 304, 0, 1, 1);
        due(26, "three down", x.run(13), 3);
        due(29, "dues", x.settled(0, 0), 989802);
        due(29, "paid by 0", x.settled(0, 1), 334);
        due(29, "got by 0", x.settled(0, 2), 333);
        due(29, "paid by 1", x.settled(1, 1), 333);
        due(29, "paid by 2", x.settled(2, 1), 333);
        due(8, "coin of 0", x.coin(0, 0), 0);
        due(8, "coin of 2", x.coin(2, 0), 1);
        due(8, "coin of 3", x.coin(3, 0), 1);
        due(7, "4 is up", x.look(4, 0), 1);
    }

    private static void leastAndJudge() {
        AccountDay x = exchange(12, 0, 0, 1);
        due(30, "no such stock", x.least(1, -1), BEYOND);
        due(30, "below 0", x.least(0, -1), NO);
        due(30, "nothing", x.least(0, Integer.MAX_VALUE), 0);
        stands(x, 1, 0, 5, 1);
        stands(x, 203, 0, 5, 1);
        stands(x, 304, 0, 2, 1);
        // -5 5 -5 3 2
        due(30, "two parts", x.least(0, 0), 3);
        stands(x, 405, 0, 9, 1);
        stands(x, 406, 0, 1, 1);
        stands(x, 708, 0, 9, 1);
        stands(x, 709, 0, 1, 1);
        // -5 5 -5 3 -8 9 1 -10 9 1: four parts at most (-5 5, 3 -8 ... )
        due(30, "ten men", x.least(0, 0), 7);
        stands(x, 1011, 0, 1, 1);
        due(30, "twelve men", x.least(0, 0), KIND);
        stands(x, 110, 0, 1, 1);
        due(30, "eleven men", x.least(0, 0), KIND);
        stands(x, 11, 0, 4, 1);
        stands(x, 1101, 0, 5, 1);
        due(30, "ten men again", x.least(0, 0) > 0 ? 1 : 0, 1);
        x.lay(3);
        x.set(0, 12);
        due(31, "a thirteenth man", x.judge(0, 0), NONE);
        x.set(0, 0);
        x.set(1, 12);
        x.set(2, 1);
        due(31, "to a thirteenth man", x.judge(0, 0), NONE);
        due(30, "twelve men in the next", x.least(0, 1), 0);
        x = exchange(3, 0, 0, 1);
        stands(x, 1, 0, 5, 1);
        stands(x, 2, 0, 3, 1);
        due(31, "no such stock", x.judge(1, -1), BEYOND);
        due(31, "below 0", x.judge(0, -1), NO);
        due(31, "no row", x.judge(0, 0), MISSING);
        x.lay(4);
        due(31, "no three times", x.judge(0, 0), KIND);
        due(31, "no three times, another", x.judge(0, -1), NO);
        due(31, "good", judged(x, 0, 1, 5, 0, 2, 3), 2);
        due(31, "in parts", judged(x, 0, 1, 2, 0, 2, 3, 0, 1, 3), 3);
        due(31, "too few", judged(x, 0, 1, 5), NONE);
        due(31, "too many", judged(x, 0, 1, 6, 0, 2, 3), NONE);
        due(31, "gave and got", judged(x, 0, 1, 8, 1, 2, 3), NONE);
        due(31, "the first gave and got", gaveAndGot(), NONE);
        due(31, "himself", judged(x, 0, 1, 5, 0, 2, 3, 1, 1, 1), NONE);
        due(31, "none of it", judged(x, 0, 1, 5, 0, 2, 3, 0, 1, 0), NONE);
        due(31, "below 0", judged(x, 0, 1, 6, 0, 2, 3, 0, 1, -1), NONE);
        due(31, "no such man", judged(x, 0, 1, 5, 0, 3, 3), NONE);
        due(31, "man below 0", judged(x, 0, 1, 5, -1, 2, 3), NONE);
        due(31, "nothing", judged(x), NONE);
        due(31, "wrapping", judged(x, 0, 1, Integer.MAX_VALUE, 0, 1, Integer.MAX_VALUE, 0, 1, 7, 0, 2, 3), NONE);
        x.lay(0);
        due(31, "nothing is whole", x.judge(0, 1), 0);
    }

    private static int gaveAndGot() {
        AccountDay x = exchange(3, 0, 0, 1);
        stands(x, 1, 0, 5, 1);
        stands(x, 201, 0, 3, 1);
        return judged(x, 2, 0, 3, 0, 1, 8);
    }

    private static void corners() {
        AccountDay x = exchange(5, 0, 0, 1);
        x.hold(1, 0, 4);
        x.hold(2, 0, 6);
        x.hold(3, 0, 3);
        stands(x, 100, 0, 10, 10);
        stands(x, 400, 0, 1, 10);
        // 0: 11, 1: -6, 2: 6, 3: 3, 4: -1
        due(32, "corner", x.corner(0, 0, 0), 0);
        due(32, "need", x.corner(0, 0, 1), 7);
        due(32, "have", x.corner(0, 0, 2), 9);
        due(32, "by another", x.corner(0, 1, 1), 1);
        due(32, "have of the others", x.corner(0, 2, 2), 14);
        due(32, "no such stock", x.corner(1, 0, 3), BEYOND);
        due(32, "no such man", x.corner(0, 5, 0), BEYOND);
        due(32, "what", x.corner(0, 0, 3), NO);
        due(32, "what below", x.corner(0, 0, -1), NO);
        x.asks(0, 0, 5);
        x.asks(2, 0, 4);
        x.asks(3, 0, 9999);
        due(33, "the cheapest first", x.squeeze(0, 3), 6 * 4 + 5);
        due(33, "he, too", x.squeeze(0, 0), 6 * 4 + 5);
        due(33, "what he needs counts not", x.squeeze(0, 1), 4);
        due(33, "no such stock", x.squeeze(1, 0), 0);
        due(33, "no such man", x.squeeze(0, -1), 0);
        due(33, "told as BEYOND", x.status(BEYOND), 4);
        AccountDay y = exchange(3, 0, 0, 1);
        stands(y, 100, 0, 10, 10);
        stands(y, 200, 0, 5, 10);
        y.hold(2, 0, 9);
        due(32, "a corner", y.corner(0, 0, 0), 6);
        y.run(10);
        due(32, "the account of the open day", y.corner(0, 0, 1), 10);
        y.run(4);
        due(32, "the next one", y.corner(0, 0, 1), 0);
    }

    private static void otherWays() {
        AccountDay x = exchange(4, 100, 0, 1);
        due(34, "n below", x.rolling(0, -1), NO);
        due(34, "n above", x.rolling(0, 29), NO);
        due(34, "account below", x.rolling(-1, 0), NO);
        due(34, "far off", x.rolling(Integer.MAX_VALUE, 28), 0);
        due(35, "account below", x.clearing(-1), NO);
        due(35, "far off", x.clearing(Integer.MAX_VALUE), 0);
        x.run(1);
        stands(x, 1, 0, 10, 15);
        stands(x, 102, 0, 10, 9);
        x.run(1);
        stands(x, 203, 0, 10, 10);
        // day 1: 1 can't pay 150: fails; 2 pays 1 nothing; day 2: 3 pays 100 to 2
        due(34, "one fails", x.rolling(0, 0), 1);
        due(34, "up to the last day", x.rolling(0, 12), 1);
        due(34, "beyond the last day", x.rolling(0, 13), 0);
        due(35, "all together", x.clearing(0), 0);
        stands(x, 2, 0, 10, 30);
        due(34, "two fail", x.rolling(0, 0), 2);
        due(34, "behind the last day", x.rolling(0, 12), 1);
        due(35, "one can't", x.clearing(0), 1);
        due(35, "nothing changed", x.coin(1, 0), 100);
    }

    private static void images() {
        AccountDay x = chain();
        due(38, "none kept", x.back(), MISSING);
        x.lay(3);
        feed(x, "in 1");
        x.run(3);
        due(37, "image", x.image(), 3);
        x.run(20);
        x.man(1, 1);
        x.stock();
        x.asks(0, 0, 5);
        x.option(1, 0, 10001, 10000);
        x.dividend(0, 300, 1);
        x.rule(0, 10);
        x.lay(9);
        due(38, "back", x.back(), 3);
        due(38, "men", x.count(3), 3);
        due(38, "stocks", x.count(4), 2);
        due(38, "asked", x.has(0, 0, 3), 0);
        due(38, "options", x.count(9), 0);
        due(38, "dividends", x.count(15), 0);
        due(38, "rules", x.count(10), 0);
        due(38, "made", x.made(1), 0);
        due(38, "stand", x.count(6), 3);
        due(38, "no names yet", x.pass(0, 0), MISSING);
        due(38, "no settling yet", x.settled(0, 0), 0);
        due(38, "the row is not kept", x.copy(0, 0, 9), 9);
        due(38, "the tape is not kept", x.count(11), 0);
        due(38, "status is not kept", x.status(MISSING), 3);
        x.run(20);
        due(38, "once more", x.back(), 3);
        x.run(20);
        x.image();
        due(38, "another image", x.back(), 23);
        due(38, "coin as it was kept", x.coin(2, 0), 4500);
        due(38, "hold as it was kept", x.has(2, 1, 0), 10);
        due(38, "passes as they were kept", x.pass(0, 1), 2);
        due(38, "settled as it was kept", x.settled(2, 0), 500);
    }

    private static void rows() {
        AccountDay x = new AccountDay();
        due(40, "missing", x.set(0, 1), 0);
        due(42, "missing", x.row(0), 0);
        due(43, "missing", x.copy(0, 0, -1), MISSING);
        due(44, "missing", x.status(MISSING), 3);
        due(39, "below", x.lay(-1), BELOW);
        due(39, "above", x.lay(61), NO);
        due(39, "most", x.lay(60), 60);
        due(40, "the last", x.set(59, -7), 0);
        due(40, "before", x.set(59, 8), -7);
        due(42, "the last", x.row(59), 8);
        due(40, "beyond", x.set(60, 1), 0);
        due(40, "below", x.set(-1, 1), 0);
        due(42, "beyond", x.row(60), 0);
        due(42, "below", x.row(-1), 0);
        due(44, "beyond", x.status(BEYOND), 4);
        due(39, "all 0", x.lay(5), 5);
        for (int i = 0; i < 5; i++) x.set(i, i + 1);
        due(42, "beyond the new one", x.row(5), 0);
        due(43, "over itself", x.copy(0, 1, 4), 4);
        int[] told = {1, 1, 2, 3, 4};
        for (int i = 0; i < 5; i++) due(43, "row(" + i + ")", x.row(i), told[i]);
        due(43, "none at the end", x.copy(5, 5, 0), 0);
        due(43, "below 0", x.copy(-9, -9, -1), BELOW);
        due(43, "from below 0", x.copy(-1, 0, 1), COPY);
        due(43, "to below 0", x.copy(0, -1, 1), COPY);
        due(43, "from too far", x.copy(3, 0, 3), COPY);
        due(43, "to too far", x.copy(0, 3, 3), COPY);
        due(43, "wrapping", x.copy(Integer.MAX_VALUE, 0, Integer.MAX_VALUE), COPY);
        due(43, "none beyond", x.copy(6, 0, 0), COPY);
        due(41, "tear", x.tear(), 1);
        due(41, "again", x.tear(), 0);
        due(40, "torn", x.set(0, 1), 0);
        due(39, "laid anew", x.lay(2), 2);
        due(42, "laid anew", x.row(0), 0);
    }

    private static void statuses() {
        AccountDay x = new AccountDay();
        due(44, "-1", x.status(-1), NO);
        due(44, "-9", x.status(-9), NO);
        due(44, "0", x.status(0), NO);
        due(44, "least", x.status(Integer.MIN_VALUE), NO);
        due(44, "counted, too", x.status(NO), 4);
        x.run(-1);
        due(44, "BELOW", x.status(BELOW), 1);
        for (int i = 0; i < 6; i++) x.stock();
        due(44, "FULL", x.status(FULL), 1);
        x.lay(1);
        x.copy(1, 1, 1);
        due(44, "COPY", x.status(COPY), 1);
        x.judge(0, 0);
        due(44, "KIND", x.status(KIND), 1);
        x.rule(0, 1);
        due(44, "a fault is none of these", x.status(NO), 4);
    }

    public static void main(String[] args) {
        newObject();
        men();
        holdsAndCoin();
        bargains();
        accountsOfBargains();
        known();
        putOffs();
        putOffIsNotMade();
        options();
        dividends();
        tape();
        rules();
        whatRulesSay();
        faults();
        days();
        goodOrVoid();
        makingUp();
        tickets();
        lateAtTheHour();
        manyPasses();
        ways();
        settling();
        percents();
        hammering();
        lostByBothDown();
        thousandRounds();
        leastAndJudge();
        corners();
        otherWays();
        images();
        rows();
        statuses();
        end("PromisesTest");
    }
}
