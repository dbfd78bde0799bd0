import java.util.Arrays;

/** An exchange that settles each fortnight. DOC.md has the terms (in capitals here) and the promises. */
public final class AccountDay {
    public static final int NONE = -1;
    public static final int MISSING = -2;
    public static final int BEYOND = -3;
    public static final int BELOW = -4;
    public static final int KIND = -5;
    public static final int COPY = -6;
    public static final int NO = -7;
    public static final int FULL = -8;

    private static final int MEN_MOST = 12;
    private static final int STOCKS_MOST = 5;
    private static final int BARGAINS_MOST = 60;
    private static final int OPTIONS_MOST = 20;
    private static final int DIVIDENDS_MOST = 10;
    private static final int RULES_MOST = 12;
    private static final int TAPE_MOST = 120;
    private static final int PASSES_NOTED = 300;
    private static final int DELIVERIES_NOTED = 200;
    private static final int ROW_MOST = 60;

    private static final int COIN_MOST = 100000000;
    private static final int PACE_MOST = 99;
    private static final int HOLD_MOST = 9999;
    private static final int SHARES_MOST = 99;
    private static final int PRICE_MOST = 9999;
    private static final int PENCE_MOST = 999;
    private static final int OPTION_DAYS_MOST = 40;
    private static final int RUN_MOST = 28;
    private static final int ROLLING_MOST = 28;
    private static final int RULE_DAYS_MOST = 1000;
    private static final int DAYS_MOST = 700;
    private static final int FEED_MOST = 4;
    private static final int FAULTS_FROM = -10;

    private static final int ACCOUNT_DAYS = 14;
    private static final int NEXT_ACCOUNT_PLACE = 10;
    private static final int MAKING_UP_PLACE = 9;
    private static final int PUT_OFF_PLACE = 10;
    private static final int NAMES_PLACE = 11;
    private static final int SETTLING_PLACE = 12;

    private static final int RATE = 0;
    private static final int HOUR = 1;
    private static final int LATE = 2;
    private static final int IN = 3;
    private static final int GOOD = 4;
    private static final int DIV = 5;
    private static final int KEYS = 6;

    private static final int MEN_TOLD = 100;
    private static final int BARGAINS_TOLD_FROM = 100;
    private static final int PAIR_TOLD = 10000;

    private final Book book;
    private Book kept;
    private final Tape tape;
    private final Closing closing;
    private final Names names;
    private final Settling settling;
    private final Sums sums;
    private final int[] numbers;
    private int numbersSize;
    private final int[] refused;

    public AccountDay() {
        book = new Book();
        kept = null;
        tape = new Tape();
        closing = new Closing();
        names = new Names();
        settling = new Settling();
        sums = new Sums();
        numbers = new int[ROW_MOST];
        numbersSize = NONE;
        refused = new int[1 - FULL];
    }

    // ---- men, stocks

    public int man(int coin, int pace) {
        if (!isWithin(coin, 0, COIN_MOST) || !isWithin(pace, 0, PACE_MOST)) {
            return refuse(NO);
        }
        if (book.men.size >= MEN_MOST) {
            return refuse(FULL);
        }
        return book.men.enter(coin, pace);
    }

    public int stock() {
        if (book.stocks >= STOCKS_MOST) {
            return refuse(FULL);
        }
        book.stocks++;
        return book.stocks - 1;
    }

    public int hold(int man, int stock, int n) {
        if (!isMan(man) || !isStock(stock)) {
            return refuse(BEYOND);
        }
        if (!isWithin(n, 0, HOLD_MOST) || !book.men.isUp(man)) {
            return refuse(NO);
        }
        int place = Men.place(man, stock);
        book.men.held[place] += n;
        return book.men.held[place];
    }

    public int lend(int man, int coin) {
        if (!isMan(man)) {
            return refuse(BEYOND);
        }
        if (!isWithin(coin, 0, COIN_MOST) || !book.men.isUp(man)) {
            return refuse(NO);
        }
        book.men.coin[man] += coin;
        return 1;
    }

    public int asks(int man, int stock, int price) {
        if (!isMan(man) || !isStock(stock)) {
            return refuse(BEYOND);
        }
        if (!isWithin(price, 0, PRICE_MOST)) {
            return refuse(NO);
        }
        int place = Men.place(man, stock);
        int before = book.men.asked[place];
        book.men.asked[place] = price;
        return before;
    }

    public int look(int man, int what) {
        if (!isMan(man)) {
            return refuse(BEYOND);
        }
        switch (what) {
            case 0:
                return book.men.isUp(man) ? 1 : 0;
            case 1:
                return book.men.pace[man];
            case 2:
                return book.men.downOn[man];
            case 3:
                return book.bargains.livingOf(man);
            default:
                return refuse(NO);
        }
    }

    public long coin(int man, int what) {
        if (!isMan(man)) {
            return refuseAsZero(BEYOND);
        }
        switch (what) {
            case 0:
                return book.men.coin[man];
            case 1:
                return book.men.lost[man];
            case 2:
                return book.men.extraOwedBy(man);
            default:
                return refuseAsZero(NO);
        }
    }

    public int has(int man, int stock, int what) {
        if (!isMan(man) || !isStock(stock)) {
            return refuseAsZero(BEYOND);
        }
        switch (what) {
            case 0:
                return book.men.held[Men.place(man, stock)];
            case 1:
                return book.bargains.netOf(man, stock, book.account());
            case 2:
                return book.bargains.netOf(man, stock, book.account() + 1);
            case 3:
                return book.men.asked[Men.place(man, stock)];
            default:
                return refuseAsZero(NO);
        }
    }

    public int made(int stock) {
        return isStock(stock) ? book.made[stock] : refuse(BEYOND);
    }

    // ---- bargains

    public int bargain(int men, int stock, int shares, int price) {
        if (!areMen(men) || !isStock(stock)) {
            return refuse(BEYOND);
        }
        boolean asTold = isWithin(shares, 1, SHARES_MOST) && isWithin(price, 1, PRICE_MOST);
        if (!asTold || !mayDeal(men)) {
            return refuse(NO);
        }
        int free = book.bargains.leastFree(0);
        if (free == NONE) {
            return refuse(FULL);
        }
        book.bargains.write(free, first(men), second(men), stock, shares, price, book.day);
        return free;
    }

    public int mark(int bargain, int man) {
        if (!book.bargains.isThere(bargain) || !isMan(man)) {
            return refuse(BEYOND);
        }
        int column = book.bargains.markColumnOf(bargain, man);
        if (column == NONE) {
            return refuse(KIND);
        }
        if (book.bargains.at(bargain, Bargains.STATE) != Bargains.OPEN
                || book.bargains.at(bargain, column) != NONE) {
            return refuse(NO);
        }
        return book.bargains.markBy(bargain, column, book.day) ? 1 : 0;
    }

    public int clear(int bargain) {
        if (!book.bargains.isThere(bargain)) {
            return refuse(BEYOND);
        }
        if (book.bargains.isLiving(bargain)) {
            return refuse(NO);
        }
        int state = book.bargains.at(bargain, Bargains.STATE);
        book.bargains.putState(bargain, Bargains.FREE);
        return state;
    }

    public int of(int bargain, int what) {
        if (!book.bargains.isThere(bargain)) {
            return refuse(BEYOND);
        }
        return isWithin(what, 0, Bargains.COLUMNS - 1) ? book.bargains.at(bargain, what) : refuse(NO);
    }

    public int knew(int man, int stock, int account, int day) {
        if (!isMan(man) || !isStock(stock)) {
            return refuseAsZero(BEYOND);
        }
        if (account < 0 || !isWithin(day, 0, book.day)) {
            return refuseAsZero(NO);
        }
        return book.bargains.netKnownOf(man, stock, account, day);
    }

    public int putOff(int men, int stock, int n) {
        if (!areMen(men) || !isStock(stock)) {
            return refuse(BEYOND);
        }
        if (!isWithin(n, 1, SHARES_MOST) || !mayDeal(men)
                || book.place() != PUT_OFF_PLACE || book.made[stock] == 0) {
            return refuse(NO);
        }
        int now = book.bargains.leastFree(0);
        int later = now == NONE ? NONE : book.bargains.leastFree(now + 1);
        if (later == NONE) {
            return refuse(FULL);
        }
        int price = putOffPrice(book.made[stock], book.rules.tells(RATE, book, stock, NONE));
        book.bargains.write(now, first(men), second(men), stock, n, book.made[stock], book.day);
        book.bargains.makePutOff(now, book.account(), book.day);
        book.bargains.write(later, second(men), first(men), stock, n, price, book.day);
        book.bargains.makePutOff(later, book.account() + 1, book.day);
        return later;
    }

    public int option(int men, int stock, int told, int last) {
        if (!areMen(men) || !isStock(stock)) {
            return refuse(BEYOND);
        }
        int days = last / PAIR_TOLD;
        int premium = last % PAIR_TOLD;
        boolean asTold = isWithin(told / PAIR_TOLD, 1, SHARES_MOST) && told % PAIR_TOLD > 0
                && isWithin(days, 1, OPTION_DAYS_MOST);
        if (!asTold || !mayDeal(men) || book.men.coin[first(men)] < premium) {
            return refuse(NO);
        }
        if (!book.options.hasRoom()) {
            return refuse(FULL);
        }
        book.men.coin[first(men)] -= premium;
        book.men.coin[second(men)] += premium;
        return book.enterOption(first(men), second(men), stock, told, book.day + days - 1);
    }

    public int declare(int option) {
        if (!book.options.isNoted(option)) {
            return refuse(BEYOND);
        }
        if (book.options.at(option, Book.OPTION_STATE) != Book.OPTION_OPEN) {
            return refuse(NO);
        }
        int free = book.bargains.leastFree(0);
        if (free == NONE) {
            return refuse(FULL);
        }
        book.declareInto(option, free);
        return free;
    }

    public int optionOf(int option, int what) {
        return readOf(book.options, option, what);
    }

    public int dividend(int stock, int day, int pence) {
        if (!isStock(stock)) {
            return refuse(BEYOND);
        }
        if (!isWithin(day, book.day, DAYS_MOST - 1) || !isWithin(pence, 1, PENCE_MOST)) {
            return refuse(NO);
        }
        if (!book.dividends.hasRoom()) {
            return refuse(FULL);
        }
        return book.enterDividend(stock, day, pence);
    }

    // ---- rules

    public int feed(int bytes, int n) {
        if (n < 0) {
            return refuse(BELOW);
        }
        if (n > FEED_MOST) {
            return refuse(NO);
        }
        if (tape.size + n > TAPE_MOST) {
            return refuse(FULL);
        }
        tape.append(bytes, n);
        return tape.size;
    }

    public int wipe() {
        int before = tape.size;
        tape.size = 0;
        return before;
    }

    public int rule(int from, int to) {
        if (from < 0 || from >= to || to > RULE_DAYS_MOST) {
            return refuse(NO);
        }
        if (!book.rules.heads.hasRoom()) {
            return refuse(FULL);
        }
        if (!tape.isRule()) {
            return FAULTS_FROM - tape.fault();
        }
        int number = book.rules.enter(tape, from, to);
        tape.size = 0;
        return number;
    }

    public int says(int key, int who) {
        if (!isWithin(key, 0, KEYS - 1) || !isToldOf(who)) {
            return refuseAsZero(BEYOND);
        }
        return book.rules.tells(key, book, stockToldOf(who), bargainToldOf(who));
    }

    public int why(int key, int who) {
        if (!isWithin(key, 0, KEYS - 1) || !isToldOf(who)) {
            return refuse(BEYOND);
        }
        return book.rules.find(key, book, stockToldOf(who), bargainToldOf(who));
    }

    // ---- days, tickets

    public int run(int n) {
        if (n < 0) {
            return refuse(BELOW);
        }
        if (!isWithin(n, 1, RUN_MOST)) {
            return refuse(NO);
        }
        if (book.day + n > DAYS_MOST) {
            return refuse(FULL);
        }
        int down = 0;
        for (int i = 0; i < n; i++) {
            closing.judgeOpen(book);
            closing.payDividends(book);
            if (book.place() == MAKING_UP_PLACE) {
                closing.makeUp(book);
            }
            if (book.place() == NAMES_PLACE) {
                names.nameAccount(book, book.account());
            }
            if (book.place() == SETTLING_PLACE) {
                down += settling.settleAccount(book, book.account());
            }
            closing.endOptions(book);
            book.day++;
        }
        return down;
    }

    public int pass(int i, int what) {
        return book.wasNamed ? readOf(book.passes, i, what) : refuse(MISSING);
    }

    public int delivery(int i, int what) {
        return book.wasNamed ? readOf(book.deliveries, i, what) : refuse(MISSING);
    }

    public long settled(int man, int what) {
        if (!book.wasSettled) {
            return refuseAsZero(MISSING);
        }
        if (!isMan(man)) {
            return refuseAsZero(BEYOND);
        }
        if (!isWithin(what, 0, Book.OUTCOMES - 1)) {
            return refuseAsZero(NO);
        }
        return book.outcome[man * Book.OUTCOMES + what];
    }

    // ---- sums and rows

    public int least(int stock, int account) {
        if (!isStock(stock)) {
            return refuse(BEYOND);
        }
        if (account < 0) {
            return refuse(NO);
        }
        int fewest = sums.fewestPasses(book, stock, account);
        return fewest == NONE ? refuse(KIND) : fewest;
    }

    public int judge(int stock, int account) {
        if (!isStock(stock)) {
            return refuse(BEYOND);
        }
        if (account < 0) {
            return refuse(NO);
        }
        if (numbersSize == NONE) {
            return refuse(MISSING);
        }
        if (numbersSize % 3 != 0) {
            return refuse(KIND);
        }
        return sums.isGood(book, stock, account, numbers, numbersSize) ? numbersSize / 3 : NONE;
    }

    public int corner(int stock, int man, int what) {
        if (!isStock(stock) || !isMan(man)) {
            return refuse(BEYOND);
        }
        if (!isWithin(what, 0, 2)) {
            return refuse(NO);
        }
        int need = sums.needOfOthers(book, stock, man);
        int have = sums.haveOfOthers(book, stock, man);
        switch (what) {
            case 0:
                return Math.max(need - have, 0);
            case 1:
                return need;
            default:
                return have;
        }
    }

    public long squeeze(int stock, int man) {
        if (!isStock(stock) || !isMan(man)) {
            return refuseAsZero(BEYOND);
        }
        return sums.leastCost(book, stock, man);
    }

    public int rolling(int account, int n) {
        if (account < 0 || !isWithin(n, 0, ROLLING_MOST)) {
            return refuse(NO);
        }
        return sums.failingByRolling(book, account, n);
    }

    public int clearing(int account) {
        return account < 0 ? refuse(NO) : sums.failingByClearing(book, account);
    }

    public int count(int what) {
        switch (what) {
            case 0:
                return book.day;
            case 1:
                return book.place();
            case 2:
                return book.account();
            case 3:
                return book.men.size;
            case 4:
                return book.stocks;
            case 5:
            case 6:
            case 7:
            case 8:
                return book.bargains.inState(what - 5);
            case 9:
                return book.options.size;
            case 10:
                return book.rules.heads.size;
            case 11:
                return tape.size;
            case 12:
                return book.men.size - book.men.upCount();
            case 13:
                return book.passes.size;
            case 14:
                return book.deliveries.size;
            case 15:
                return book.dividends.size;
            default:
                return refuse(NO);
        }
    }

    public int image() {
        if (kept == null) {
            kept = new Book();
        }
        kept.takeOver(book);
        return book.day;
    }

    public int back() {
        if (kept == null) {
            return refuse(MISSING);
        }
        book.takeOver(kept);
        return book.day;
    }

    // ---- rows

    public int lay(int n) {
        if (n < 0) {
            return refuse(BELOW);
        }
        if (n > ROW_MOST) {
            return refuse(NO);
        }
        Arrays.fill(numbers, 0);
        numbersSize = n;
        return n;
    }

    public int set(int i, int v) {
        if (numbersSize == NONE) {
            return refuseAsZero(MISSING);
        }
        if (!isWithin(i, 0, numbersSize - 1)) {
            return refuseAsZero(BEYOND);
        }
        int before = numbers[i];
        numbers[i] = v;
        return before;
    }

    public int tear() {
        int wasThere = numbersSize == NONE ? 0 : 1;
        numbersSize = NONE;
        return wasThere;
    }

    public int row(int i) {
        if (numbersSize == NONE) {
            return refuseAsZero(MISSING);
        }
        return isWithin(i, 0, numbersSize - 1) ? numbers[i] : refuseAsZero(BEYOND);
    }

    public int copy(int i, int j, int n) {
        if (numbersSize == NONE) {
            return refuse(MISSING);
        }
        if (n < 0) {
            return refuse(BELOW);
        }
        // the bound is taken from the size, not from a sum that could wrap
        int lastPlace = numbersSize - n;
        if (!isWithin(i, 0, lastPlace) || !isWithin(j, 0, lastPlace)) {
            return refuse(COPY);
        }
        System.arraycopy(numbers, i, numbers, j, n);
        return n;
    }

    public int status(int by) {
        return isWithin(by, FULL, MISSING) ? refused[-by] : refuse(NO);
    }

    // ---- what several calls share

    private int refuse(int by) {
        refused[-by]++;
        return by;
    }

    private int refuseAsZero(int by) {
        refuse(by);
        return 0;
    }

    private static boolean isWithin(int n, int least, int most) {
        return n >= least && n <= most;
    }

    private boolean isMan(int man) {
        return isWithin(man, 0, book.men.size - 1);
    }

    private boolean isStock(int stock) {
        return isWithin(stock, 0, book.stocks - 1);
    }

    private static int first(int men) {
        return men / MEN_TOLD;
    }

    private static int second(int men) {
        return men % MEN_TOLD;
    }

    private boolean areMen(int men) {
        return isMan(first(men)) && isMan(second(men));
    }

    private boolean mayDeal(int men) {
        return first(men) != second(men) && book.men.isUp(first(men)) && book.men.isUp(second(men));
    }

    private static int putOffPrice(int made, int rate) {
        long price = made + (long) made * rate / 10000;
        return (int) Math.max(1L, Math.min(price, PRICE_MOST));
    }

    private int readOf(Table table, int i, int what) {
        if (!table.isNoted(i)) {
            return refuse(BEYOND);
        }
        return table.hasColumn(what) ? table.at(i, what) : refuse(NO);
    }

    private boolean isToldOf(int who) {
        return isStock(who) || bargainToldOf(who) != NONE;
    }

    private int bargainToldOf(int who) {
        boolean isBargain = who >= BARGAINS_TOLD_FROM && book.bargains.isThere(who - BARGAINS_TOLD_FROM);
        return isBargain ? who - BARGAINS_TOLD_FROM : NONE;
    }

    private int stockToldOf(int who) {
        int bargain = bargainToldOf(who);
        return bargain == NONE ? who : book.bargains.at(bargain, Bargains.STOCK);
    }

    /** Rows of numbers, all of one width; beyond them it reads 0 and takes nothing. */
    private static final class Table {
        private final int most;
        private final int width;
        private final int[] cells;
        int size;

        Table(int most, int width) {
            this.most = most;
            this.width = width;
            cells = new int[most * width];
            size = 0;
        }

        boolean hasRoom() {
            return size < most;
        }

        boolean hasColumn(int what) {
            return what >= 0 && what < width;
        }

        /** A table may have counted more rows than it has room to note. */
        boolean isNoted(int i) {
            return i >= 0 && i < size && i < most;
        }

        int at(int i, int what) {
            boolean isCell = i >= 0 && i < most && what >= 0 && what < width;
            return isCell ? cells[i * width + what] : 0;
        }

        void put(int i, int what, int v) {
            boolean isCell = i >= 0 && i < most && what >= 0 && what < width;
            if (isCell) {
                cells[i * width + what] = v;
            }
        }

        void takeOver(Table other) {
            size = other.size;
            System.arraycopy(other.cells, 0, cells, 0, Math.min(cells.length, other.cells.length));
        }
    }

    /** All that an image keeps. */
    private static final class Book {
        // the columns of OPTIONS, as optionOf() numbers them
        static final int GIVER = 0;
        static final int TAKER = 1;
        static final int OPTION_STOCK = 2;
        static final int OPTION_SHARES = 3;
        static final int OPTION_PRICE = 4;
        static final int LAST_DAY = 5;
        static final int OPTION_STATE = 6;
        static final int OPTION_OPEN = 0;
        static final int DECLARED = 1;
        static final int OVER = 2;

        static final int DIVIDEND_STOCK = 0;
        static final int DIVIDEND_DAY = 1;
        static final int PENCE = 2;

        // the columns of PASSES and of DELIVERIES, as pass() and delivery() number them
        static final int PASS_STOCK = 0;
        static final int PASSED_BY = 1;
        static final int PASSED_TO = 2;
        static final int PASS_NAME = 3;
        static final int PASS_SHARES = 4;
        static final int PASS_MINUTE = 5;
        static final int PASS_LATE = 6;
        static final int DELIVERY_STOCK = 0;
        static final int DELIVERED_BY = 1;
        static final int DELIVERY_NAME = 2;
        static final int DELIVERY_SHARES = 3;
        static final int DELIVERY_MINUTE = 4;
        static final int DELIVERY_LATE = 5;

        // what settled() tells of a MAN
        static final int DUES = 0;
        static final int PAID = 1;
        static final int GOT = 2;
        static final int TO_MARKET = 3;
        static final int BOUGHT_IN = 4;
        static final int OUTCOMES = 5;

        int day;
        int stocks;
        final int[] made = new int[STOCKS_MOST];
        final Men men = new Men();
        final Bargains bargains = new Bargains();
        final Rules rules = new Rules();
        final Table options = new Table(OPTIONS_MOST, OPTION_STATE + 1);
        final Table dividends = new Table(DIVIDENDS_MOST, PENCE + 1);
        final Table passes = new Table(PASSES_NOTED, PASS_LATE + 1);
        final Table deliveries = new Table(DELIVERIES_NOTED, DELIVERY_LATE + 1);
        final long[] outcome = new long[MEN_MOST * OUTCOMES];
        boolean wasNamed;
        boolean wasSettled;

        int account() {
            return day / ACCOUNT_DAYS;
        }

        int place() {
            return day % ACCOUNT_DAYS;
        }

        int enterOption(int giver, int taker, int stock, int told, int lastDay) {
            int option = options.size;
            options.size++;
            options.put(option, GIVER, giver);
            options.put(option, TAKER, taker);
            options.put(option, OPTION_STOCK, stock);
            options.put(option, OPTION_SHARES, told / PAIR_TOLD);
            options.put(option, OPTION_PRICE, told % PAIR_TOLD);
            options.put(option, LAST_DAY, lastDay);
            options.put(option, OPTION_STATE, OPTION_OPEN);
            return option;
        }

        void declareInto(int option, int bargain) {
            bargains.write(bargain, options.at(option, TAKER), options.at(option, GIVER),
                    options.at(option, OPTION_STOCK), options.at(option, OPTION_SHARES),
                    options.at(option, OPTION_PRICE), day);
            bargains.makeStand(bargain, day);
            options.put(option, OPTION_STATE, DECLARED);
        }

        int enterDividend(int stock, int onDay, int pence) {
            int dividend = dividends.size;
            dividends.size++;
            dividends.put(dividend, DIVIDEND_STOCK, stock);
            dividends.put(dividend, DIVIDEND_DAY, onDay);
            dividends.put(dividend, PENCE, pence);
            return dividends.size;
        }

        void takeOver(Book other) {
            day = other.day;
            stocks = other.stocks;
            System.arraycopy(other.made, 0, made, 0, STOCKS_MOST);
            men.takeOver(other.men);
            bargains.table.takeOver(other.bargains.table);
            rules.takeOver(other.rules);
            options.takeOver(other.options);
            dividends.takeOver(other.dividends);
            passes.takeOver(other.passes);
            deliveries.takeOver(other.deliveries);
            System.arraycopy(other.outcome, 0, outcome, 0, MEN_MOST * OUTCOMES);
            wasNamed = other.wasNamed;
            wasSettled = other.wasSettled;
        }
    }

    /** MEN with what they have and owe. */
    private static final class Men {
        int size;
        final long[] coin = new long[MEN_MOST];
        final long[] lost = new long[MEN_MOST];
        /** EXTRA: by who owes it, then by whom he owes. */
        final long[] extra = new long[MEN_MOST * MEN_MOST];
        final int[] pace = new int[MEN_MOST];
        final int[] downOn = new int[MEN_MOST];
        final int[] held = new int[MEN_MOST * STOCKS_MOST];
        final int[] asked = new int[MEN_MOST * STOCKS_MOST];

        static int place(int man, int stock) {
            return man * STOCKS_MOST + stock;
        }

        int enter(int hisCoin, int hisPace) {
            int man = size;
            size++;
            coin[man] = hisCoin;
            pace[man] = hisPace;
            downOn[man] = NONE;
            return man;
        }

        boolean isUp(int man) {
            return downOn[man] == NONE;
        }

        int upCount() {
            int up = 0;
            for (int man = 0; man < size; man++) {
                if (isUp(man)) {
                    up++;
                }
            }
            return up;
        }

        long extraOwedBy(int man) {
            long sum = 0;
            for (int other = 0; other < MEN_MOST; other++) {
                sum += extra[man * MEN_MOST + other];
            }
            return sum;
        }

        void takeOver(Men other) {
            size = other.size;
            System.arraycopy(other.coin, 0, coin, 0, MEN_MOST);
            System.arraycopy(other.lost, 0, lost, 0, MEN_MOST);
            System.arraycopy(other.extra, 0, extra, 0, MEN_MOST * MEN_MOST);
            System.arraycopy(other.pace, 0, pace, 0, MEN_MOST);
            System.arraycopy(other.downOn, 0, downOn, 0, MEN_MOST);
            System.arraycopy(other.held, 0, held, 0, MEN_MOST * STOCKS_MOST);
            System.arraycopy(other.asked, 0, asked, 0, MEN_MOST * STOCKS_MOST);
        }
    }

    /** BARGAINS by their numbers; a free number has the STATE FREE. */
    private static final class Bargains {
        // the columns, as of() numbers them
        static final int SELLER = 0;
        static final int BUYER = 1;
        static final int STOCK = 2;
        static final int SHARES = 3;
        static final int PRICE = 4;
        static final int DAY = 5;
        static final int ACCOUNT = 6;
        static final int STATE = 7;
        static final int SELLER_MARK = 8;
        static final int BUYER_MARK = 9;
        static final int PUT_OFF = 10;
        static final int COLUMNS = 11;

        static final int FREE = -1;
        static final int OPEN = 0;
        static final int STANDS = 1;
        static final int SETTLED = 2;
        static final int VOID = 3;

        final Table table = new Table(BARGAINS_MOST, COLUMNS);

        Bargains() {
            for (int b = 0; b < BARGAINS_MOST; b++) {
                table.put(b, STATE, FREE);
            }
        }

        int at(int b, int what) {
            return table.at(b, what);
        }

        boolean isThere(int b) {
            return b >= 0 && b < BARGAINS_MOST && table.at(b, STATE) != FREE;
        }

        boolean isLiving(int b) {
            int state = table.at(b, STATE);
            return state == OPEN || state == STANDS;
        }

        boolean standsFor(int b, int account) {
            return table.at(b, STATE) == STANDS && table.at(b, ACCOUNT) == account;
        }

        boolean standsIn(int b, int stock, int account) {
            return table.at(b, STOCK) == stock && table.at(b, STATE) == STANDS && table.at(b, ACCOUNT) == account;
        }

        int leastFree(int from) {
            for (int b = Math.max(from, 0); b < BARGAINS_MOST; b++) {
                if (table.at(b, STATE) == FREE) {
                    return b;
                }
            }
            return NONE;
        }

        void write(int b, int seller, int buyer, int stock, int shares, int price, int day) {
            table.put(b, SELLER, seller);
            table.put(b, BUYER, buyer);
            table.put(b, STOCK, stock);
            table.put(b, SHARES, shares);
            table.put(b, PRICE, price);
            table.put(b, DAY, day);
            boolean isForNext = day % ACCOUNT_DAYS >= NEXT_ACCOUNT_PLACE;
            table.put(b, ACCOUNT, day / ACCOUNT_DAYS + (isForNext ? 1 : 0));
            table.put(b, STATE, OPEN);
            table.put(b, SELLER_MARK, NONE);
            table.put(b, BUYER_MARK, NONE);
            table.put(b, PUT_OFF, 0);
        }

        void putState(int b, int state) {
            table.put(b, STATE, state);
        }

        int markColumnOf(int b, int man) {
            if (table.at(b, SELLER) == man) {
                return SELLER_MARK;
            }
            return table.at(b, BUYER) == man ? BUYER_MARK : NONE;
        }

        /** Whether it STANDS by that. */
        boolean markBy(int b, int column, int day) {
            table.put(b, column, day);
            boolean byBoth = table.at(b, SELLER_MARK) != NONE && table.at(b, BUYER_MARK) != NONE;
            if (byBoth) {
                table.put(b, STATE, STANDS);
            }
            return byBoth;
        }

        void makeStand(int b, int day) {
            if (table.at(b, SELLER_MARK) == NONE) {
                table.put(b, SELLER_MARK, day);
            }
            if (table.at(b, BUYER_MARK) == NONE) {
                table.put(b, BUYER_MARK, day);
            }
            table.put(b, STATE, STANDS);
        }

        void makePutOff(int b, int account, int day) {
            table.put(b, ACCOUNT, account);
            table.put(b, PUT_OFF, 1);
            makeStand(b, day);
        }

        /** 1 the SELLER's and 2 the BUYER's, together. */
        int marksOf(int b) {
            int marks = table.at(b, SELLER_MARK) == NONE ? 0 : 1;
            return table.at(b, BUYER_MARK) == NONE ? marks : marks + 2;
        }

        private int gainOf(int b, int man) {
            if (table.at(b, BUYER) == man) {
                return table.at(b, SHARES);
            }
            return table.at(b, SELLER) == man ? -table.at(b, SHARES) : 0;
        }

        int netOf(int man, int stock, int account) {
            int net = 0;
            for (int b = 0; b < BARGAINS_MOST; b++) {
                if (standsIn(b, stock, account)) {
                    net += gainOf(b, man);
                }
            }
            return net;
        }

        int netKnownOf(int man, int stock, int account, int day) {
            int net = 0;
            for (int b = 0; b < BARGAINS_MOST; b++) {
                int known = Math.max(table.at(b, SELLER_MARK), table.at(b, BUYER_MARK));
                if (standsIn(b, stock, account) && known <= day) {
                    net += gainOf(b, man);
                }
            }
            return net;
        }

        /** Each MAN's NET, into one number for each that there can be. */
        void netsInto(int[] nets, int stock, int account) {
            Arrays.fill(nets, 0);
            for (int b = 0; b < BARGAINS_MOST; b++) {
                if (standsIn(b, stock, account)) {
                    nets[table.at(b, BUYER)] += table.at(b, SHARES);
                    nets[table.at(b, SELLER)] -= table.at(b, SHARES);
                }
            }
        }

        int livingOf(int man) {
            int living = 0;
            for (int b = 0; b < BARGAINS_MOST; b++) {
                if (isLiving(b) && gainOf(b, man) != 0) {
                    living++;
                }
            }
            return living;
        }

        int inState(int state) {
            int found = 0;
            for (int b = 0; b < BARGAINS_MOST; b++) {
                if (table.at(b, STATE) == state) {
                    found++;
                }
            }
            return found;
        }
    }

    /** THE TAPE, and how it is read as a RULE: what is worked out comes behind what it works on. */
    private static final class Tape {
        private static final String WORDS =
                "rate hour late in good div stock made day place men shares price seller buyer marks if or and not ";
        private static final int FIRST_NAME = 6;
        private static final int IF_WORD = 16;
        private static final int NO_WORD = -1;

        // kinds of TOKENS; a SIGN's kind is its byte, all of them above these
        static final int KEY = 1;
        static final int NAME = 2;
        static final int NUMBER = 3;
        static final int IF = 4;
        static final int OR = 5;
        static final int AND = 6;
        static final int NOT = 7;
        static final int END = 8;
        static final int UNREADABLE = 9;

        // what binds weakest comes first
        private static final int OR_LEVEL = 0;
        private static final int AND_LEVEL = 1;
        private static final int NOT_LEVEL = 2;
        private static final int SUM_LEVEL = 3;
        private static final int ONE_LEVEL = 5;

        private static final int DIGITS_MOST = 5;
        private static final int OPEN_MOST = 6;

        int size;
        private final int[] bytes = new int[TAPE_MOST];
        private int start;
        private int next;
        private int kind;
        private int value;
        int key;
        final int[] code = new int[TAPE_MOST];
        int codeSize;
        int valueEnd;

        void append(int word, int n) {
            for (int i = n - 1; i >= 0 && size < TAPE_MOST; i--) {
                bytes[size] = (word >>> (8 * i)) & 255;
                size++;
            }
        }

        boolean isRule() {
            next = 0;
            codeSize = 0;
            takeToken();
            if (kind != KEY) {
                return false;
            }
            key = value;
            takeToken();
            if (!readLevel(OR_LEVEL, 0)) {
                return false;
            }
            valueEnd = codeSize;
            if (kind == IF) {
                takeToken();
                if (!readLevel(OR_LEVEL, 0)) {
                    return false;
                }
            }
            return kind == END;
        }

        /** Reading stops with the TOKEN that can't stand there at hand. */
        int fault() {
            return start;
        }

        /** What joins TERMS, SUMS and the rest is read alike; how many may be joined is not. */
        private boolean readLevel(int level, int open) {
            if (level >= ONE_LEVEL) {
                return readOne(open);
            }
            if (level == NOT_LEVEL && kind == NOT) {
                return readOpened(NOT_LEVEL, open, Rules.NOT);
            }
            boolean fits = readLevel(level + 1, open);
            int most = level == NOT_LEVEL ? 1 : TAPE_MOST;
            for (int i = 0; i < most && fits && joins(level); i++) {
                int joint = kind;
                takeToken();
                fits = readLevel(level + 1, open);
                emit(Rules.FIRST_JOINT - joint);
            }
            return fits;
        }

        private boolean joins(int level) {
            switch (level) {
                case OR_LEVEL:
                    return kind == OR;
                case AND_LEVEL:
                    return kind == AND;
                case NOT_LEVEL:
                    return kind == '=' || kind == '<' || kind == '>';
                case SUM_LEVEL:
                    return kind == '+' || kind == '-';
                default:
                    return kind == '*' || kind == '/' || kind == '%';
            }
        }

        /** A not or a - with what belongs to it. */
        private boolean readOpened(int level, int open, int step) {
            if (open >= OPEN_MOST) {
                return false;
            }
            takeToken();
            boolean fits = readLevel(level, open + 1);
            emit(step);
            return fits;
        }

        private boolean readOne(int open) {
            if (kind == NUMBER || kind == NAME) {
                emit(kind == NUMBER ? value : Rules.FIRST_NAME - value);
                takeToken();
                return true;
            }
            if (kind == '-') {
                return readOpened(ONE_LEVEL, open, Rules.MINUS);
            }
            if (kind != '(' || open >= OPEN_MOST) {
                return false;
            }
            takeToken();
            if (!readLevel(OR_LEVEL, open + 1) || kind != ')') {
                return false;
            }
            takeToken();
            return true;
        }

        private void emit(int step) {
            if (codeSize < TAPE_MOST) {
                code[codeSize] = step;
                codeSize++;
            }
        }

        private int byteAt(int i) {
            return i >= 0 && i < size && i < TAPE_MOST ? bytes[i] : 0;
        }

        private void takeToken() {
            for (int i = 0; i < TAPE_MOST && byteAt(next) == ' '; i++) {
                next++;
            }
            start = next;
            int first = byteAt(start);
            if (start >= size) {
                kind = END;
            } else if (first >= 'a' && first <= 'z') {
                skipLetters();
                takeWord(wordAtHand());
            } else if (first >= '0' && first <= '9') {
                takeNumber();
            } else {
                kind = isSign(first) ? first : UNREADABLE;
                next++;
            }
        }

        private static boolean isSign(int b) {
            return b == '(' || b == ')' || b == '+' || b == '-' || b == '*' || b == '/' || b == '%'
                    || b == '=' || b == '<' || b == '>';
        }

        private void takeNumber() {
            value = 0;
            for (int i = 0; i < TAPE_MOST && byteAt(next) >= '0' && byteAt(next) <= '9'; i++) {
                value = value * 10 + byteAt(next) - '0';
                next++;
            }
            kind = next - start > DIGITS_MOST ? UNREADABLE : NUMBER;
        }

        private void skipLetters() {
            for (int i = 0; i < TAPE_MOST && byteAt(next) >= 'a' && byteAt(next) <= 'z'; i++) {
                next++;
            }
        }

        private void takeWord(int word) {
            if (word == NO_WORD) {
                kind = UNREADABLE;
            } else if (word < FIRST_NAME) {
                kind = KEY;
                value = word;
            } else if (word < IF_WORD) {
                kind = NAME;
                value = word - FIRST_NAME;
            } else {
                kind = IF + word - IF_WORD;
            }
        }

        private int wordAtHand() {
            int word = 0;
            int place = start;
            boolean fits = true;
            for (int i = 0; i < WORDS.length(); i++) {
                int letter = WORDS.charAt(i);
                if (letter != ' ') {
                    fits = fits && place < next && place < TAPE_MOST && bytes[place] == letter;
                    place++;
                } else if (fits && place == next) {
                    return word;
                } else {
                    word++;
                    place = start;
                    fits = true;
                }
            }
            return NO_WORD;
        }
    }

    /** RULES, and what they SAY. */
    private static final class Rules {
        // steps: a NUMBER as it is, NAMES from -1 down, what joins two by its TOKEN's kind from -100 down
        static final int FIRST_NAME = -1;
        static final int NOT = -20;
        static final int MINUS = -21;
        static final int FIRST_JOINT = -100;

        static final int STOCK_NAME = 0;
        static final int MADE_NAME = 1;
        static final int DAY_NAME = 2;
        static final int PLACE_NAME = 3;
        static final int MEN_NAME = 4;
        static final int SHARES_NAME = 5;
        static final int PRICE_NAME = 6;
        static final int SELLER_NAME = 7;
        static final int BUYER_NAME = 8;
        static final int MARKS_NAME = 9;
        static final int NAMES = 10;

        static final int KEY = 0;
        static final int FROM = 1;
        static final int TO = 2;
        static final int VALUE_END = 3;
        static final int IF_END = 4;

        private static final int[] WITHOUT = {0, 120, 0, 0, 0, 1};

        final Table heads = new Table(RULES_MOST, IF_END + 1);
        private final int[] code = new int[RULES_MOST * TAPE_MOST];
        private final int[] names = new int[NAMES];
        private final int[] stack = new int[TAPE_MOST];

        int enter(Tape tape, int from, int to) {
            int rule = heads.size;
            heads.size++;
            heads.put(rule, KEY, tape.key);
            heads.put(rule, FROM, from);
            heads.put(rule, TO, to);
            heads.put(rule, VALUE_END, tape.valueEnd);
            heads.put(rule, IF_END, tape.codeSize);
            System.arraycopy(tape.code, 0, code, rule * TAPE_MOST, TAPE_MOST);
            return rule;
        }

        int tells(int key, Book book, int stock, int bargain) {
            int rule = find(key, book, stock, bargain);
            return rule == NONE ? WITHOUT[key] : work(rule, 0, heads.at(rule, VALUE_END));
        }

        int find(int key, Book book, int stock, int bargain) {
            nameAll(book, stock, bargain);
            for (int rule = heads.size - 1; rule >= 0; rule--) {
                boolean isInForce = heads.at(rule, FROM) <= book.day && book.day < heads.at(rule, TO);
                if (isInForce && heads.at(rule, KEY) == key) {
                    int from = heads.at(rule, VALUE_END);
                    int to = heads.at(rule, IF_END);
                    if (from == to || work(rule, from, to) != 0) {
                        return rule;
                    }
                }
            }
            return NONE;
        }

        private void nameAll(Book book, int stock, int bargain) {
            Arrays.fill(names, 0);
            names[STOCK_NAME] = stock;
            names[MADE_NAME] = book.made[stock];
            names[DAY_NAME] = book.day;
            names[PLACE_NAME] = book.place();
            names[MEN_NAME] = book.men.upCount();
            if (bargain != NONE) {
                names[SHARES_NAME] = book.bargains.at(bargain, Bargains.SHARES);
                names[PRICE_NAME] = book.bargains.at(bargain, Bargains.PRICE);
                names[SELLER_NAME] = book.bargains.at(bargain, Bargains.SELLER);
                names[BUYER_NAME] = book.bargains.at(bargain, Bargains.BUYER);
                names[MARKS_NAME] = book.bargains.marksOf(bargain);
            }
        }

        private int work(int rule, int from, int to) {
            int top = -1;
            for (int i = from; i < to && i < TAPE_MOST; i++) {
                int step = code[rule * TAPE_MOST + i];
                if (step > FIRST_NAME - NAMES) {
                    if (top < TAPE_MOST - 1) {
                        top++;
                        stack[top] = step >= 0 ? step : names[FIRST_NAME - step];
                    }
                } else if (step == NOT || step == MINUS) {
                    if (top >= 0) {
                        stack[top] = step == MINUS ? -stack[top] : stack[top] == 0 ? 1 : 0;
                    }
                } else if (top >= 1) {
                    top--;
                    stack[top] = joined(FIRST_JOINT - step, stack[top], stack[top + 1]);
                }
            }
            return top >= 0 ? stack[top] : 0;
        }

        private static int joined(int joint, int a, int b) {
            switch (joint) {
                case '+':
                    return a + b;
                case '-':
                    return a - b;
                case '*':
                    return a * b;
                case '/':
                    return b == 0 ? 0 : a / b;
                case '%':
                    return b == 0 ? 0 : a % b;
                case '=':
                    return a == b ? 1 : 0;
                case '<':
                    return a < b ? 1 : 0;
                case '>':
                    return a > b ? 1 : 0;
                case Tape.OR:
                    return a != 0 || b != 0 ? 1 : 0;
                default:
                    return a != 0 && b != 0 ? 1 : 0;
            }
        }

        void takeOver(Rules other) {
            heads.takeOver(other.heads);
            System.arraycopy(other.code, 0, code, 0, RULES_MOST * TAPE_MOST);
        }
    }

    /** How a DAY closes, but for NAMES and SETTLING. */
    private static final class Closing {
        void judgeOpen(Book book) {
            Bargains bargains = book.bargains;
            for (int b = 0; b < BARGAINS_MOST; b++) {
                boolean isDecided = bargains.at(b, Bargains.STATE) == Bargains.OPEN
                        && bargains.at(b, Bargains.DAY) < book.day;
                if (isDecided) {
                    if (book.rules.tells(GOOD, book, bargains.at(b, Bargains.STOCK), b) != 0) {
                        bargains.makeStand(b, book.day);
                    } else {
                        bargains.putState(b, Bargains.VOID);
                    }
                }
            }
        }

        void payDividends(Book book) {
            Table dividends = book.dividends;
            int waiting = 0;
            int told = Math.min(dividends.size, DIVIDENDS_MOST);
            for (int i = 0; i < told; i++) {
                int stock = dividends.at(i, Book.DIVIDEND_STOCK);
                int day = dividends.at(i, Book.DIVIDEND_DAY);
                int pence = dividends.at(i, Book.PENCE);
                if (day == book.day) {
                    payHolders(book, stock, pence);
                    oweExtra(book, stock, pence);
                } else {
                    dividends.put(waiting, Book.DIVIDEND_STOCK, stock);
                    dividends.put(waiting, Book.DIVIDEND_DAY, day);
                    dividends.put(waiting, Book.PENCE, pence);
                    waiting++;
                }
            }
            dividends.size = waiting;
        }

        private void payHolders(Book book, int stock, int pence) {
            for (int man = 0; man < book.men.size; man++) {
                if (book.men.isUp(man)) {
                    book.men.coin[man] += (long) book.men.held[Men.place(man, stock)] * pence;
                }
            }
        }

        private void oweExtra(Book book, int stock, int pence) {
            Bargains bargains = book.bargains;
            for (int b = 0; b < BARGAINS_MOST; b++) {
                boolean isInIt = bargains.at(b, Bargains.STATE) == Bargains.STANDS
                        && bargains.at(b, Bargains.STOCK) == stock && bargains.at(b, Bargains.DAY) < book.day;
                if (isInIt && book.rules.tells(DIV, book, stock, b) != 0) {
                    int place = bargains.at(b, Bargains.SELLER) * MEN_MOST + bargains.at(b, Bargains.BUYER);
                    book.men.extra[place] += (long) bargains.at(b, Bargains.SHARES) * pence;
                }
            }
        }

        void makeUp(Book book) {
            for (int stock = 0; stock < book.stocks; stock++) {
                int last = lastMade(book.bargains, stock, book.account());
                if (last != NONE) {
                    book.made[stock] = book.bargains.at(last, Bargains.PRICE);
                }
            }
        }

        private int lastMade(Bargains bargains, int stock, int account) {
            int last = NONE;
            for (int b = 0; b < BARGAINS_MOST; b++) {
                if (bargains.standsIn(b, stock, account) && bargains.at(b, Bargains.PUT_OFF) == 0) {
                    boolean isLater = last == NONE
                            || bargains.at(b, Bargains.DAY) >= bargains.at(last, Bargains.DAY);
                    last = isLater ? b : last;
                }
            }
            return last;
        }

        void endOptions(Book book) {
            Table options = book.options;
            for (int i = 0; i < options.size; i++) {
                boolean ends = options.at(i, Book.OPTION_STATE) == Book.OPTION_OPEN
                        && options.at(i, Book.LAST_DAY) == book.day;
                if (ends) {
                    options.put(i, Book.OPTION_STATE, Book.OVER);
                }
            }
        }
    }

    /** NAMES: TICKETS that wait in a row, and where they go. */
    private static final class Names {
        /**
         * Of the TICKETS that one splits into, each but the last uses up what is LEFT of a BARGAIN: so at
         * most 12 and 60 wait at once. A power of 2, for a place in the ring by a mask.
         */
        private static final int RING = 128;
        /** Each PASS takes a SHARE at least of what is LEFT. */
        private static final int TICKETS_MOST = BARGAINS_MOST * SHARES_MOST + MEN_MOST;

        private final int[] name = new int[RING];
        private final int[] holder = new int[RING];
        private final int[] shares = new int[RING];
        private final int[] minute = new int[RING];
        private final int[] late = new int[RING];
        private int head;
        private int waiting;
        private final int[] net = new int[MEN_MOST];
        private final int[] left = new int[BARGAINS_MOST];

        void nameAccount(Book book, int account) {
            book.wasNamed = true;
            book.passes.size = 0;
            book.deliveries.size = 0;
            for (int stock = 0; stock < book.stocks; stock++) {
                layOut(book, stock, account);
                int hour = book.rules.tells(HOUR, book, stock, NONE);
                for (int taken = 0; taken < TICKETS_MOST && waiting > 0; taken++) {
                    takeFirst(book, stock, hour);
                }
            }
        }

        private void layOut(Book book, int stock, int account) {
            book.bargains.netsInto(net, stock, account);
            for (int b = 0; b < BARGAINS_MOST; b++) {
                boolean isInIt = book.bargains.standsIn(b, stock, account);
                left[b] = isInIt ? book.bargains.at(b, Bargains.SHARES) : 0;
            }
            head = 0;
            waiting = 0;
            for (int man = 0; man < MEN_MOST; man++) {
                if (net[man] > 0) {
                    line(man, man, net[man], 0, NONE);
                }
            }
        }

        /** Behind the row; the TICKET's slot. */
        private int line(int itsName, int itsHolder, int n, int at, int byWhom) {
            int slot = (head + waiting) & (RING - 1);
            name[slot] = itsName;
            holder[slot] = itsHolder;
            shares[slot] = n;
            minute[slot] = at;
            late[slot] = byWhom;
            waiting++;
            return slot;
        }

        private void takeFirst(Book book, int stock, int hour) {
            int slot = head;
            head = (head + 1) & (RING - 1);
            waiting--;
            int has = holder[slot];
            if (has != name[slot]) {
                int given = Math.min(shares[slot], Math.max(-net[has], 0));
                if (given > 0) {
                    net[has] += given;
                    shares[slot] -= given;
                    noteDelivery(book, stock, slot, given);
                }
            }
            passOn(book, stock, hour, slot);
        }

        private void noteDelivery(Book book, int stock, int slot, int given) {
            Table deliveries = book.deliveries;
            int i = deliveries.size;
            deliveries.size++;
            deliveries.put(i, Book.DELIVERY_STOCK, stock);
            deliveries.put(i, Book.DELIVERED_BY, holder[slot]);
            deliveries.put(i, Book.DELIVERY_NAME, name[slot]);
            deliveries.put(i, Book.DELIVERY_SHARES, given);
            deliveries.put(i, Book.DELIVERY_MINUTE, minute[slot]);
            deliveries.put(i, Book.DELIVERY_LATE, late[slot]);
        }

        private void passOn(Book book, int stock, int hour, int slot) {
            int has = holder[slot];
            int comes = minute[slot] + book.men.pace[has];
            boolean isLateNow = minute[slot] <= hour && comes > hour;
            int byWhom = isLateNow && late[slot] == NONE ? has : late[slot];
            int wanted = shares[slot];
            for (int b = 0; b < BARGAINS_MOST && wanted > 0; b++) {
                int n = Math.min(left[b], wanted);
                if (n > 0 && book.bargains.at(b, Bargains.BUYER) == has) {
                    left[b] -= n;
                    wanted -= n;
                    int ticket = line(name[slot], book.bargains.at(b, Bargains.SELLER), n, comes, byWhom);
                    notePass(book.passes, stock, has, ticket);
                }
            }
        }

        private void notePass(Table passes, int stock, int from, int ticket) {
            int i = passes.size;
            passes.size++;
            passes.put(i, Book.PASS_STOCK, stock);
            passes.put(i, Book.PASSED_BY, from);
            passes.put(i, Book.PASSED_TO, holder[ticket]);
            passes.put(i, Book.PASS_NAME, name[ticket]);
            passes.put(i, Book.PASS_SHARES, shares[ticket]);
            passes.put(i, Book.PASS_MINUTE, minute[ticket]);
            passes.put(i, Book.PASS_LATE, late[ticket]);
        }
    }

    /** SETTLING: DUES, ROUNDS, and those who can't pay. */
    private static final class Settling {
        private static final int ROUNDS_MOST = 1000;
        private static final int PERCENT_MOST = 1000;
        /** THE MARKET's column stands behind those of the MEN. */
        private static final int MARKET = MEN_MOST;
        private static final int WIDTH = MEN_MOST + 1;
        private static final int HALF_BITS = 20;

        private final long[] owed = new long[MEN_MOST * WIDTH];
        private final long[] paid = new long[MEN_MOST * WIDTH];
        private final long[] paidBefore = new long[MEN_MOST * WIDTH];
        private final long[] dues = new long[MEN_MOST];

        int settleAccount(Book book, int account) {
            book.wasSettled = true;
            Arrays.fill(owed, 0);
            Arrays.fill(book.outcome, 0);
            oweDifferences(book, account);
            oweDeliveries(book);
            oweExtra(book.men);
            leaveTheRest();
            payInRounds(book.men);
            moveCoin(book);
            endBargains(book.bargains, account);
            int down = hammer(book);
            voidOthers(book);
            return down;
        }

        private void owe(int from, int to, long amount) {
            if (from != to) {
                owed[from * WIDTH + to] += amount;
            }
        }

        private void oweDifferences(Book book, int account) {
            Bargains bargains = book.bargains;
            for (int b = 0; b < BARGAINS_MOST; b++) {
                if (bargains.standsFor(b, account)) {
                    int above = bargains.at(b, Bargains.PRICE) - book.made[bargains.at(b, Bargains.STOCK)];
                    // a sum below 0 comes right when of each two just the rest is left
                    owe(bargains.at(b, Bargains.BUYER), bargains.at(b, Bargains.SELLER),
                            (long) bargains.at(b, Bargains.SHARES) * above);
                }
            }
        }

        /**
         * HOLD moves at once: who delivers in a STOCK gets nothing in it. All DELIVERIES are noted: each uses
         * up a TICKET or what a MAN has to DELIVER, 120 times at most.
         */
        private void oweDeliveries(Book book) {
            Table deliveries = book.deliveries;
            int noted = Math.min(deliveries.size, DELIVERIES_NOTED);
            for (int i = 0; i < noted; i++) {
                int stock = deliveries.at(i, Book.DELIVERY_STOCK);
                int from = deliveries.at(i, Book.DELIVERED_BY);
                int name = deliveries.at(i, Book.DELIVERY_NAME);
                int shares = deliveries.at(i, Book.DELIVERY_SHARES);
                long worth = (long) shares * book.made[stock];
                owe(name, from, worth);
                int missing = moveShares(book.men, stock, from, name, shares);
                int above = percent(book.rules.tells(IN, book, stock, NONE));
                owe(from, MARKET, (long) missing * book.made[stock] * (100 + above) / 100);
                book.outcome[from * Book.OUTCOMES + Book.BOUGHT_IN] += missing;
                int late = deliveries.at(i, Book.DELIVERY_LATE);
                if (late != NONE) {
                    owe(late, name, worth * percent(book.rules.tells(LATE, book, stock, NONE)) / 100);
                }
            }
        }

        /** How many he hadn't. */
        private int moveShares(Men men, int stock, int from, int name, int shares) {
            int had = Math.min(shares, men.held[Men.place(from, stock)]);
            men.held[Men.place(from, stock)] -= had;
            men.held[Men.place(name, stock)] += shares;
            return shares - had;
        }

        private static int percent(int said) {
            return Math.max(0, Math.min(said, PERCENT_MOST));
        }

        private void oweExtra(Men men) {
            for (int man = 0; man < MEN_MOST; man++) {
                for (int other = 0; other < MEN_MOST; other++) {
                    owe(man, other, men.extra[man * MEN_MOST + other]);
                }
            }
            Arrays.fill(men.extra, 0);
        }

        private void leaveTheRest() {
            for (int man = 0; man < MEN_MOST; man++) {
                for (int other = 0; other < man; other++) {
                    long rest = owed[man * WIDTH + other] - owed[other * WIDTH + man];
                    owed[man * WIDTH + other] = Math.max(rest, 0);
                    owed[other * WIDTH + man] = Math.max(-rest, 0);
                }
            }
            for (int man = 0; man < MEN_MOST; man++) {
                dues[man] = sumOf(owed, man);
            }
        }

        private long sumOf(long[] sums, int man) {
            long sum = 0;
            for (int column = 0; column < WIDTH; column++) {
                sum += sums[man * WIDTH + column];
            }
            return sum;
        }

        private long sumTo(long[] sums, int man) {
            long sum = 0;
            for (int other = 0; other < MEN_MOST; other++) {
                sum += sums[other * WIDTH + man];
            }
            return sum;
        }

        private void payInRounds(Men men) {
            Arrays.fill(paid, 0);
            boolean changes = true;
            for (int round = 0; round < ROUNDS_MOST && changes; round++) {
                System.arraycopy(paid, 0, paidBefore, 0, MEN_MOST * WIDTH);
                changes = false;
                for (int man = 0; man < men.size; man++) {
                    if (dues[man] > 0) {
                        changes = payOf(man, men.coin[man] + sumTo(paidBefore, man)) || changes;
                    }
                }
            }
        }

        /** Whether he pays other sums than in the round before. */
        private boolean payOf(int man, long has) {
            boolean changes = false;
            for (int column = 0; column < WIDTH; column++) {
                int place = man * WIDTH + column;
                paid[place] = has < dues[man] ? part(owed[place], has, dues[man]) : owed[place];
                changes = changes || paid[place] != paidBefore[place];
            }
            return changes;
        }

        /** due * has / all, has below all: worked in two halves, since the product could wrap. */
        private static long part(long due, long has, long all) {
            if (all <= 0) {
                return 0;
            }
            long high = due * (has >> HALF_BITS);
            long low = due * (has & ((1L << HALF_BITS) - 1));
            return ((high / all) << HALF_BITS) + (((high % all) << HALF_BITS) + low) / all;
        }

        private void moveCoin(Book book) {
            for (int man = 0; man < book.men.size; man++) {
                long gave = sumOf(paid, man);
                long got = sumTo(paid, man);
                book.men.coin[man] += got - gave;
                int place = man * Book.OUTCOMES;
                book.outcome[place + Book.DUES] = dues[man];
                book.outcome[place + Book.PAID] = gave;
                book.outcome[place + Book.GOT] = got;
                book.outcome[place + Book.TO_MARKET] = owed[man * WIDTH + MARKET];
            }
        }

        private void endBargains(Bargains bargains, int account) {
            for (int b = 0; b < BARGAINS_MOST; b++) {
                if (bargains.standsFor(b, account)) {
                    bargains.putState(b, Bargains.SETTLED);
                }
            }
        }

        /** How many MEN became DOWN. */
        private int hammer(Book book) {
            int down = 0;
            for (int man = 0; man < book.men.size; man++) {
                if (sumOf(paid, man) < dues[man]) {
                    book.men.downOn[man] = book.day;
                    down++;
                }
            }
            return down;
        }

        private void voidOthers(Book book) {
            for (int man = 0; man < book.men.size; man++) {
                if (!book.men.isUp(man)) {
                    voidBargainsOf(book, man);
                    endOptionsOf(book.options, man);
                }
            }
        }

        private void voidBargainsOf(Book book, int man) {
            Bargains bargains = book.bargains;
            for (int b = 0; b < BARGAINS_MOST; b++) {
                if (bargains.isLiving(b) && bargains.markColumnOf(b, man) != NONE) {
                    boolean isSeller = bargains.at(b, Bargains.SELLER) == man;
                    int other = bargains.at(b, isSeller ? Bargains.BUYER : Bargains.SELLER);
                    int rise = book.made[bargains.at(b, Bargains.STOCK)] - bargains.at(b, Bargains.PRICE);
                    long gain = (long) bargains.at(b, Bargains.SHARES) * (isSeller ? rise : -rise);
                    book.men.lost[other] += Math.max(gain, 0);
                    bargains.putState(b, Bargains.VOID);
                }
            }
        }

        private void endOptionsOf(Table options, int man) {
            for (int i = 0; i < options.size; i++) {
                boolean isHis = options.at(i, Book.GIVER) == man || options.at(i, Book.TAKER) == man;
                if (isHis && options.at(i, Book.OPTION_STATE) == Book.OPTION_OPEN) {
                    options.put(i, Book.OPTION_STATE, Book.OVER);
                }
            }
        }
    }

    /** LEAST, ROWS, CORNERS and OTHER WAYS: sums that change nothing. */
    private static final class Sums {
        private static final int LEAST_MEN_MOST = 10;
        private static final int SETS = 1 << LEAST_MEN_MOST;

        private final int[] net = new int[MEN_MOST];
        private final int[] nonzero = new int[LEAST_MEN_MOST];
        private final int[] setSum = new int[SETS];
        private final int[] setParts = new int[SETS];
        private final long[] gave = new long[MEN_MOST];
        private final long[] got = new long[MEN_MOST];
        private final int[] position = new int[MEN_MOST];
        private final long[] coin = new long[MEN_MOST];
        /** A bit for each MAN. */
        private int failed;

        /**
         * MEN that come to 0 together need one PASS fewer than they are: so it is their count less the most
         * such parts they fall into. NONE: too many MEN.
         */
        int fewestPasses(Book book, int stock, int account) {
            book.bargains.netsInto(net, stock, account);
            int found = 0;
            for (int man = 0; man < MEN_MOST; man++) {
                if (net[man] != 0) {
                    if (found >= LEAST_MEN_MOST) {
                        return NONE;
                    }
                    nonzero[found] = net[man];
                    found++;
                }
            }
            return found - mostParts(found);
        }

        private int mostParts(int men) {
            int sets = 1 << men;
            setSum[0] = 0;
            setParts[0] = 0;
            for (int set = 1; set < sets; set++) {
                int most = 0;
                for (int i = 0; i < men; i++) {
                    if ((set >> i & 1) != 0) {
                        int without = set ^ (1 << i);
                        setSum[set] = setSum[without] + nonzero[i];
                        most = Math.max(most, setParts[without]);
                    }
                }
                setParts[set] = setSum[set] == 0 ? most + 1 : most;
            }
            return setParts[sets - 1];
        }

        boolean isGood(Book book, int stock, int account, int[] numbers, int size) {
            Arrays.fill(gave, 0);
            Arrays.fill(got, 0);
            for (int i = 0; i + 2 < size; i += 3) {
                int from = numbers[i];
                int to = numbers[i + 1];
                boolean areMen = from >= 0 && from < book.men.size && to >= 0 && to < book.men.size;
                if (!areMen || from == to || numbers[i + 2] <= 0) {
                    return false;
                }
                gave[from] += numbers[i + 2];
                got[to] += numbers[i + 2];
            }
            return isWhole(book, stock, account);
        }

        private boolean isWhole(Book book, int stock, int account) {
            book.bargains.netsInto(net, stock, account);
            for (int man = 0; man < MEN_MOST; man++) {
                boolean didBoth = gave[man] > 0 && got[man] > 0;
                if (didBoth || got[man] - gave[man] != net[man]) {
                    return false;
                }
            }
            return true;
        }

        /** HOLD and NET of MEN that are UP, in the open ACCOUNT. */
        private void takePositions(Book book, int stock) {
            book.bargains.netsInto(net, stock, book.account());
            Arrays.fill(position, 0);
            for (int man = 0; man < book.men.size; man++) {
                if (book.men.isUp(man)) {
                    position[man] = book.men.held[Men.place(man, stock)] + net[man];
                }
            }
        }

        int needOfOthers(Book book, int stock, int man) {
            takePositions(book, stock);
            int need = 0;
            for (int other = 0; other < MEN_MOST; other++) {
                need += other == man ? 0 : Math.max(-position[other], 0);
            }
            return need;
        }

        int haveOfOthers(Book book, int stock, int man) {
            takePositions(book, stock);
            int have = 0;
            for (int other = 0; other < MEN_MOST; other++) {
                have += other == man ? 0 : Math.max(position[other], 0);
            }
            return have;
        }

        long leastCost(Book book, int stock, int man) {
            int need = needOfOthers(book, stock, man);
            long cost = 0;
            for (int i = 0; i < MEN_MOST && need > 0; i++) {
                int seller = cheapest(book.men, stock);
                if (seller == NONE) {
                    return NONE;
                }
                int n = Math.min(need, position[seller]);
                cost += (long) n * book.men.asked[Men.place(seller, stock)];
                need -= n;
                position[seller] = 0;
            }
            return need > 0 ? NONE : cost;
        }

        private int cheapest(Men men, int stock) {
            int best = NONE;
            for (int man = 0; man < men.size; man++) {
                boolean isCheaper = best == NONE
                        || men.asked[Men.place(man, stock)] < men.asked[Men.place(best, stock)];
                if (position[man] > 0 && isCheaper) {
                    best = man;
                }
            }
            return best;
        }

        int failingByRolling(Book book, int account, int n) {
            if (account > DAYS_MOST) {
                return 0;
            }
            System.arraycopy(book.men.coin, 0, coin, 0, MEN_MOST);
            failed = 0;
            // a BARGAIN is made in its own ACCOUNT or in the one ahead of it
            int firstDay = (account - 1) * ACCOUNT_DAYS;
            int lastDay = account * ACCOUNT_DAYS + ACCOUNT_DAYS - 1 - n;
            int fails = 0;
            for (int day = firstDay; day <= lastDay; day++) {
                for (int b = 0; b < BARGAINS_MOST; b++) {
                    boolean isDue = book.bargains.standsFor(b, account)
                            && book.bargains.at(b, Bargains.DAY) == day;
                    if (isDue && failsToPay(book.bargains, b)) {
                        fails++;
                    }
                }
            }
            return fails;
        }

        private boolean failsToPay(Bargains bargains, int b) {
            int seller = bargains.at(b, Bargains.SELLER);
            int buyer = bargains.at(b, Bargains.BUYER);
            if ((failed >> seller & 1) != 0 || (failed >> buyer & 1) != 0) {
                return false;
            }
            long price = worth(bargains, b);
            if (coin[buyer] < price) {
                failed |= 1 << buyer;
                return true;
            }
            coin[buyer] -= price;
            coin[seller] += price;
            return false;
        }

        private static long worth(Bargains bargains, int b) {
            return (long) bargains.at(b, Bargains.SHARES) * bargains.at(b, Bargains.PRICE);
        }

        int failingByClearing(Book book, int account) {
            System.arraycopy(book.men.coin, 0, coin, 0, MEN_MOST);
            for (int b = 0; b < BARGAINS_MOST; b++) {
                if (book.bargains.standsFor(b, account)) {
                    coin[book.bargains.at(b, Bargains.BUYER)] -= worth(book.bargains, b);
                    coin[book.bargains.at(b, Bargains.SELLER)] += worth(book.bargains, b);
                }
            }
            int fails = 0;
            for (int man = 0; man < book.men.size; man++) {
                if (coin[man] < 0) {
                    fails++;
                }
            }
            return fails;
        }
    }
}
