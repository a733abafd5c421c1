/** Wine futures of an estate: its lots in barrels, its buyers, its book, and orders as texts. */
public final class WineFutures {
    /** An argument is out of its range, or there is no such lot or buyer. */
    public static final int INVALID_ARGUMENT = -2000000001;
    /** The call is not possible in the present state. */
    public static final int NOT_POSSIBLE = -2000000002;
    /** A fixed limit has been reached. */
    public static final int LIMIT_REACHED = -2000000003;
    /** There is no such value. */
    public static final int NOT_FOUND = -2000000004;

    private static final int MOST_LOTS = 6;
    private static final int MOST_BUYERS = 6;
    private static final int MOST_BARRELS = 12;
    private static final int MOST_RATE = 50;
    private static final int FULL_BARREL = 2250;
    private static final int LOW_BARREL = 1800;
    private static final int SIP = 10;
    private static final int CASE = 90;
    private static final int MOST_SCORE = 100;
    private static final int MOST_CASES = 999;
    private static final int MOST_PRICE = 999;
    private static final int MOST_MONTHS = 60;
    private static final int LAST_MONTH = 999;
    private static final int FARTHEST_MONTH = 120;
    private static final int MOST_MARGIN = 100;
    private static final int MOST_HORIZON = 36;
    private static final int MOST_ENTRIES = 12;
    private static final int ENTRY_CELLS = 6;
    private static final int MOST_STATES = 4;
    private static final int MOST_SIGNS = 60;
    private static final int MOST_DIGITS = 3;
    private static final int MOST_NUMBERS = 4;

    private static final int SALE = 0;
    private static final int TRADE = 1;
    private static final int CUT = 2;
    private static final int DELIVERY = 3;

    private static final int NO_FAULT = 0;
    private static final int BAD_FORM = 1;
    private static final int REFUSED = 2;

    private final Estate now = new Estate();
    private final History history = new History();
    private final Orders text = new Orders();
    private final Trial trial = new Trial();

    /** Creates an estate without lots and buyers. */
    public WineFutures() {
    }

    // ---- lots

    public int lot(int barrels, int rate) {
        history.draft(now);
        return settled(now.addLot(barrels, rate));
    }

    public int taste(int lot, int score) {
        history.draft(now);
        return settled(now.tasteLot(lot, score));
    }

    public int top(int lot) {
        history.draft(now);
        return settled(now.topLot(lot));
    }

    public int pass(int months) {
        history.draft(now);
        return settled(now.passMonths(months));
    }

    public int bottle(int lot) {
        history.draft(now);
        return settled(now.bottleLot(lot));
    }

    // ---- buyers, futures

    public int buyer() {
        history.draft(now);
        return settled(now.addBuyer());
    }

    public int sell(int lot, int buyer, int cases, int price) {
        history.draft(now);
        return settled(now.sellFutures(lot, buyer, cases, price));
    }

    public int trade(int lot, int from, int to, int cases, int price) {
        history.draft(now);
        return settled(now.tradeFutures(lot, from, to, cases, price));
    }

    public int redeem(int lot, int buyer, int cases) {
        history.draft(now);
        return settled(now.redeemFutures(lot, buyer, cases));
    }

    public int set(int what, int value) {
        history.draft(now);
        return settled(now.changeSetting(what, value));
    }

    // ---- what there is

    public int lotOf(int lot, int what) {
        return now.lotValue(lot, what);
    }

    public int barrel(int lot, int barrel) {
        return now.barrelValue(lot, barrel);
    }

    public int holding(int buyer, int lot, int what) {
        return now.holdingValue(buyer, lot, what);
    }

    public int account(int whose) {
        return now.accountValue(whose);
    }

    public int entry(int index, int what) {
        return now.book.cell(index, what);
    }

    // ---- what would be

    public int cases(int lot, int months) {
        return now.forecastCases(lot, months);
    }

    public int sellable(int lot) {
        return now.sellableFutures(lot);
    }

    public int deadline(int lot) {
        return now.monthsUntilTooFew(lot);
    }

    public int topping(int lot) {
        return now.gainByTopping(lot);
    }

    public int loser(int lot, int what) {
        return now.greatestLoss(lot, what);
    }

    public int count(int what) {
        switch (what) {
            case 10: return history.states;
            case 11: return text.length;
            default: return now.number(what);
        }
    }

    public int undo() {
        return history.restore(now);
    }

    // ---- texts

    public int type(int character) {
        return text.append(character);
    }

    public int clearText() {
        return text.empty();
    }

    public int fault(int what) {
        if (!within(what, 0, 2)) {
            return INVALID_ARGUMENT;
        }
        trial.run(text, now);
        if (trial.reason == NO_FAULT) {
            return NOT_FOUND;
        }
        switch (what) {
            case 0: return trial.position;
            case 1: return trial.reason;
            default: return trial.cause;
        }
    }

    public int play() {
        trial.run(text, now);
        if (trial.reason != NO_FAULT) {
            return NOT_POSSIBLE;
        }
        history.draft(now);
        now.copyEstate(trial.estate);
        return settled(trial.orders);
    }

    /** No change answers below 0, so that such an answer is an error, which history must not keep. */
    private int settled(int answer) {
        if (answer >= 0) {
            history.keepDraft();
        }
        return answer;
    }

    private static boolean within(int value, int least, int most) {
        return value >= least && value <= most;
    }

    /** The part of an amount that falls on some pieces out of all, rounded down. */
    private static int share(int amount, int pieces, int all) {
        if (all <= 0) {
            return 0;
        }
        return (int) ((long) amount * pieces / all);
    }

    private static int sum(int[] row) {
        int all = 0;
        for (int i = 0; i < row.length; i++) {
            all += row[i];
        }
        return all;
    }

    private static void copyRow(int[] from, int[] to) {
        for (int i = 0; i < from.length && i < to.length; i++) {
            to[i] = from[i];
        }
    }

    /**
     * The bits of a float that is 0 or at least 2 to the power of -126, and below 2 to the power of 31;
     * by hand, for the library's own function is not among those that may be used.
     */
    private static int floatBits(float value) {
        if (!(value > 0f)) {
            return 0;
        }
        float rest = value;
        int exponent = 127;
        for (int i = 0; i < 127 && rest >= 2f; i++) {
            rest = rest / 2f;
            exponent++;
        }
        for (int i = 0; i < 126 && rest < 1f; i++) {
            rest = rest * 2f;
            exponent--;
        }
        return (exponent << 23) | (int) ((rest - 1f) * 8388608f);
    }

    /** The wine of a lot: those barrels that have any, in their order. */
    private static final class Barrels {
        final int[] wine = new int[MOST_BARRELS];
        int number;
        int rate;

        void fill(int newNumber, int newRate) {
            number = newNumber;
            rate = newRate;
            for (int i = 0; i < wine.length; i++) {
                wine[i] = i < newNumber ? FULL_BARREL : 0;
            }
        }

        void copyBarrels(Barrels other) {
            copyRow(other.wine, wine);
            number = other.number;
            rate = other.rate;
        }

        int casesBehind(int months) {
            int all = 0;
            for (int i = 0; i < number && i < wine.length; i++) {
                all += wineBehind(wine[i], months);
            }
            return all / CASE;
        }

        /** Answers what is lost. */
        int lose(int months) {
            int lost = 0;
            for (int i = 0; i < number && i < wine.length; i++) {
                int left = wineBehind(wine[i], months);
                lost += wine[i] - left;
                wine[i] = left;
            }
            return lost;
        }

        /**
         * What is left of a barrel's wine. A month takes a tenth of it at most, so that no barrel is
         * left without wine; one that loses nothing in a month never does again.
         */
        int wineBehind(int amount, int months) {
            int left = amount;
            for (int month = 0; month < months; month++) {
                int loss = left * rate / 1000;
                if (loss == 0) {
                    break;
                }
                left -= left < LOW_BARREL ? 2 * loss : loss;
            }
            return left;
        }

        /** The number of the first barrel that has enough for a tasting, or -1. */
        int barrelForTasting() {
            for (int i = 0; i < number && i < wine.length; i++) {
                if (wine[i] >= SIP) {
                    return i;
                }
            }
            return -1;
        }

        void takeSip(int barrel) {
            if (barrel < 0 || barrel >= number || barrel >= wine.length) {
                return;
            }
            wine[barrel] -= SIP;
            if (wine[barrel] == 0) {
                leaveOut(barrel);
            }
        }

        void leaveOut(int barrel) {
            for (int i = barrel; i >= 0 && i + 1 < wine.length; i++) {
                wine[i] = wine[i + 1];
            }
            wine[wine.length - 1] = 0;
            number--;
        }

        boolean canBeToppedUp() {
            for (int i = 0; i < number - 1 && i < wine.length; i++) {
                if (wine[i] < FULL_BARREL) {
                    return true;
                }
            }
            return false;
        }

        /** Each turn either a barrel is full or the last one is left out, so that twice the barrels is enough. */
        void topUp() {
            int to = 0;
            for (int turn = 0; turn < 2 * MOST_BARRELS && to < number - 1 && number <= wine.length; turn++) {
                int last = number - 1;
                int poured = Math.min(FULL_BARREL - wine[to], wine[last]);
                wine[to] += poured;
                wine[last] -= poured;
                if (wine[last] == 0) {
                    number--;
                }
                if (wine[to] >= FULL_BARREL) {
                    to++;
                }
            }
        }
    }

    /** A lot with all that buyers have of it, in rows with a place for each buyer. */
    private static final class Lot {
        final Barrels barrels = new Barrels();
        final int[] held = new int[MOST_BUYERS];
        final int[] paid = new int[MOST_BUYERS];
        final int[] delivered = new int[MOST_BUYERS];
        boolean bottled;
        int bottledCases;
        int scores;
        int tastings;

        void copyLot(Lot other) {
            barrels.copyBarrels(other.barrels);
            copyRow(other.held, held);
            copyRow(other.paid, paid);
            copyRow(other.delivered, delivered);
            bottled = other.bottled;
            bottledCases = other.bottledCases;
            scores = other.scores;
            tastings = other.tastings;
        }

        int quote() {
            if (tastings <= 0) {
                return 10;
            }
            int mean = scores / tastings;
            return 10 + mean * mean / 100;
        }

        int allHeld() {
            return sum(held);
        }

        int allDelivered() {
            return sum(delivered);
        }

        int casesNow() {
            return bottled ? bottledCases - allDelivered() : barrels.casesBehind(0);
        }

        int heldBy(int buyer) {
            return buyer >= 0 && buyer < held.length ? held[buyer] : 0;
        }

        int paidBy(int buyer) {
            return buyer >= 0 && buyer < paid.length ? paid[buyer] : 0;
        }

        int deliveredTo(int buyer) {
            return buyer >= 0 && buyer < delivered.length ? delivered[buyer] : 0;
        }

        void give(int buyer, int cases, int money) {
            if (buyer >= 0 && buyer < held.length && buyer < paid.length) {
                held[buyer] += cases;
                paid[buyer] += money;
            }
        }

        /** Answers what was paid for those that are taken. */
        int takeBack(int buyer, int cases) {
            int money = share(paidBy(buyer), cases, heldBy(buyer));
            give(buyer, -cases, -money);
            return money;
        }

        void deliver(int buyer, int cases) {
            if (buyer >= 0 && buyer < delivered.length) {
                takeBack(buyer, cases);
                delivered[buyer] += cases;
            }
        }

        /** How many of a buyer's futures are too many, if there are so many cases for all that are held. */
        int cutOf(int buyer, int cases, int all) {
            if (all <= cases) {
                return 0;
            }
            return heldBy(buyer) - share(heldBy(buyer), cases, all);
        }

        /** A bottled lot has no barrels, so that what needs wine in barrels is not possible with it. */
        void fillBottles() {
            bottledCases = barrels.casesBehind(0);
            bottled = true;
            barrels.fill(0, barrels.rate);
        }
    }

    /** The latest entries, the latest one first; a cell without a value has NOT_FOUND. */
    private static final class Book {
        final int[] cells = new int[MOST_ENTRIES * ENTRY_CELLS];
        int entries;

        void copyBook(Book other) {
            copyRow(other.cells, cells);
            entries = other.entries;
        }

        void write(int kind, int lot, int buyer, int cases, int money, int from) {
            for (int i = cells.length - 1; i >= ENTRY_CELLS; i--) {
                cells[i] = cells[i - ENTRY_CELLS];
            }
            cells[0] = kind;
            cells[1] = lot;
            cells[2] = buyer;
            cells[3] = cases;
            cells[4] = money;
            cells[5] = from;
            if (entries < MOST_ENTRIES) {
                entries++;
            }
        }

        int cell(int index, int what) {
            if (index < 0 || !within(what, 0, ENTRY_CELLS - 1)) {
                return INVALID_ARGUMENT;
            }
            if (index >= entries || index >= MOST_ENTRIES) {
                return NOT_FOUND;
            }
            return cells[index * ENTRY_CELLS + what];
        }
    }

    /** All that a state is but the text. */
    private static final class Estate {
        final Lot[] lots = new Lot[MOST_LOTS];
        final int[] accounts = new int[MOST_BUYERS];
        final Book book = new Book();
        /** Barrels for what would be; no part of the state. */
        final Barrels forecast = new Barrels();
        int lotCount;
        int buyerCount;
        int ownAccount;
        int margin = 10;
        int horizon = 12;
        int month;
        int lost;
        int cut;

        Estate() {
            for (int i = 0; i < lots.length; i++) {
                lots[i] = new Lot();
            }
        }

        void copyEstate(Estate other) {
            for (int i = 0; i < lots.length && i < other.lots.length; i++) {
                Lot from = other.lots[i];
                Lot to = lots[i];
                if (from != null && to != null) {
                    to.copyLot(from);
                }
            }
            copyRow(other.accounts, accounts);
            book.copyBook(other.book);
            lotCount = other.lotCount;
            buyerCount = other.buyerCount;
            ownAccount = other.ownAccount;
            margin = other.margin;
            horizon = other.horizon;
            month = other.month;
            lost = other.lost;
            cut = other.cut;
        }

        /** The lot with a number, or null. */
        Lot lotAt(int number) {
            return number >= 0 && number < lotCount && number < lots.length ? lots[number] : null;
        }

        boolean hasBuyer(int number) {
            return number >= 0 && number < buyerCount && number < accounts.length;
        }

        /** A buyer pays the estate, or is paid back where money is below 0. */
        void payEstate(int buyer, int money) {
            if (hasBuyer(buyer)) {
                accounts[buyer] -= money;
                ownAccount += money;
            }
        }

        // ---- lots

        int addLot(int barrels, int rate) {
            if (!within(barrels, 1, MOST_BARRELS) || !within(rate, 0, MOST_RATE)) {
                return INVALID_ARGUMENT;
            }
            if (lotCount >= MOST_LOTS) {
                return LIMIT_REACHED;
            }
            lotCount++;
            Lot lot = lotAt(lotCount - 1);
            if (lot != null) {
                lot.barrels.fill(barrels, rate);
            }
            return lotCount - 1;
        }

        int tasteLot(int number, int score) {
            Lot lot = lotAt(number);
            if (lot == null || !within(score, 0, MOST_SCORE)) {
                return INVALID_ARGUMENT;
            }
            int barrel = lot.barrels.barrelForTasting();
            if (barrel < 0) {
                return NOT_POSSIBLE;
            }
            lot.barrels.takeSip(barrel);
            lot.scores += score;
            lot.tastings++;
            return lot.quote();
        }

        int topLot(int number) {
            Lot lot = lotAt(number);
            if (lot == null) {
                return INVALID_ARGUMENT;
            }
            if (!lot.barrels.canBeToppedUp()) {
                return NOT_POSSIBLE;
            }
            lot.barrels.topUp();
            return lot.barrels.number;
        }

        int passMonths(int months) {
            if (!within(months, 1, MOST_MONTHS)) {
                return INVALID_ARGUMENT;
            }
            if (month + months > LAST_MONTH) {
                return LIMIT_REACHED;
            }
            int lostNow = 0;
            for (int i = 0; i < lotCount; i++) {
                Lot lot = lotAt(i);
                lostNow += lot == null ? 0 : lot.barrels.lose(months);
            }
            month += months;
            lost += lostNow;
            return lostNow;
        }

        int bottleLot(int number) {
            Lot lot = lotAt(number);
            if (lot == null) {
                return INVALID_ARGUMENT;
            }
            if (lot.bottled) {
                return NOT_POSSIBLE;
            }
            lot.fillBottles();
            int all = lot.allHeld();
            int cutNow = 0;
            for (int buyer = 0; buyer < buyerCount; buyer++) {
                cutNow += cutFutures(number, lot, buyer, all);
            }
            cut += cutNow;
            return cutNow;
        }

        int cutFutures(int number, Lot lot, int buyer, int all) {
            int cases = lot.cutOf(buyer, lot.bottledCases, all);
            if (cases > 0) {
                int money = lot.takeBack(buyer, cases);
                payEstate(buyer, -money);
                book.write(CUT, number, buyer, cases, money, NOT_FOUND);
            }
            return cases;
        }

        // ---- buyers, futures

        int addBuyer() {
            if (buyerCount >= MOST_BUYERS) {
                return LIMIT_REACHED;
            }
            buyerCount++;
            return buyerCount - 1;
        }

        int sellFutures(int number, int buyer, int cases, int price) {
            Lot lot = lotAt(number);
            if (lot == null || !hasBuyer(buyer) || !within(cases, 1, MOST_CASES) || !within(price, 0, MOST_PRICE)) {
                return INVALID_ARGUMENT;
            }
            if (lot.bottled || lot.allHeld() + cases > expectedCases(lot)) {
                return NOT_POSSIBLE;
            }
            lot.give(buyer, cases, cases * price);
            payEstate(buyer, cases * price);
            book.write(SALE, number, buyer, cases, price, NOT_FOUND);
            return lot.heldBy(buyer);
        }

        int tradeFutures(int number, int from, int to, int cases, int price) {
            Lot lot = lotAt(number);
            if (lot == null || !hasBuyer(from) || !hasBuyer(to) || from == to) {
                return INVALID_ARGUMENT;
            }
            if (!within(cases, 1, MOST_CASES) || !within(price, 0, MOST_PRICE)) {
                return INVALID_ARGUMENT;
            }
            if (lot.heldBy(from) < cases) {
                return NOT_POSSIBLE;
            }
            lot.takeBack(from, cases);
            lot.give(to, cases, cases * price);
            accounts[from] += cases * price;
            accounts[to] -= cases * price;
            book.write(TRADE, number, to, cases, price, from);
            return lot.heldBy(to);
        }

        int redeemFutures(int number, int buyer, int cases) {
            Lot lot = lotAt(number);
            if (lot == null || !hasBuyer(buyer) || !within(cases, 1, MOST_CASES)) {
                return INVALID_ARGUMENT;
            }
            if (!lot.bottled || lot.heldBy(buyer) < cases) {
                return NOT_POSSIBLE;
            }
            lot.deliver(buyer, cases);
            book.write(DELIVERY, number, buyer, cases, NOT_FOUND, NOT_FOUND);
            return lot.casesNow();
        }

        int changeSetting(int what, int value) {
            if (what == 0 && within(value, 0, MOST_MARGIN)) {
                int before = margin;
                margin = value;
                return before;
            }
            if (what == 1 && within(value, 0, MOST_HORIZON)) {
                int before = horizon;
                horizon = value;
                return before;
            }
            return INVALID_ARGUMENT;
        }

        // ---- what there is

        int lotValue(int number, int what) {
            Lot lot = lotAt(number);
            if (lot == null) {
                return INVALID_ARGUMENT;
            }
            switch (what) {
                case 0: return lot.barrels.number;
                case 1: return lot.barrels.rate;
                case 2: return sum(lot.barrels.wine);
                case 3: return lot.casesNow();
                case 4: return lot.bottled ? lot.bottledCases : expectedCases(lot);
                case 5: return lot.allHeld();
                case 6: return lot.quote();
                case 7: return lot.tastings;
                case 8: return lot.bottled ? 1 : 0;
                case 9: return lot.allDelivered();
                default: return INVALID_ARGUMENT;
            }
        }

        int barrelValue(int number, int barrel) {
            Lot lot = lotAt(number);
            if (lot == null || barrel < 0) {
                return INVALID_ARGUMENT;
            }
            if (barrel >= lot.barrels.number || barrel >= lot.barrels.wine.length) {
                return NOT_FOUND;
            }
            return lot.barrels.wine[barrel];
        }

        int holdingValue(int buyer, int number, int what) {
            Lot lot = lotAt(number);
            if (lot == null || !hasBuyer(buyer)) {
                return INVALID_ARGUMENT;
            }
            switch (what) {
                case 0: return lot.heldBy(buyer);
                case 1: return lot.paidBy(buyer);
                case 2: return lot.deliveredTo(buyer);
                case 3: return meanPaid(lot.paidBy(buyer), lot.heldBy(buyer));
                default: return INVALID_ARGUMENT;
            }
        }

        int meanPaid(int paid, int held) {
            if (held <= 0) {
                return NOT_FOUND;
            }
            return floatBits((float) paid / (float) held);
        }

        int accountValue(int whose) {
            if (whose == -1) {
                return ownAccount;
            }
            return hasBuyer(whose) ? accounts[whose] : INVALID_ARGUMENT;
        }

        int number(int what) {
            switch (what) {
                case 0: return lotCount;
                case 1: return buyerCount;
                case 2: return month;
                case 3: return ownAccount + sum(accounts);
                case 4: return totalOfLots(2);
                case 5: return lost;
                case 6: return totalOfLots(5);
                case 7: return totalOfLots(9);
                case 8: return cut;
                case 9: return book.entries;
                case 20: return margin;
                case 21: return horizon;
                default: return INVALID_ARGUMENT;
            }
        }

        int totalOfLots(int what) {
            int total = 0;
            for (int i = 0; i < lotCount; i++) {
                total += lotValue(i, what);
            }
            return total;
        }

        // ---- what would be

        int expectedCases(Lot lot) {
            return lot.barrels.casesBehind(horizon) * (100 - margin) / 100;
        }

        int forecastCases(int number, int months) {
            Lot lot = lotAt(number);
            if (lot == null || !within(months, 0, FARTHEST_MONTH)) {
                return INVALID_ARGUMENT;
            }
            return lot.bottled ? NOT_POSSIBLE : lot.barrels.casesBehind(months);
        }

        int sellableFutures(int number) {
            Lot lot = lotAt(number);
            if (lot == null) {
                return INVALID_ARGUMENT;
            }
            return lot.bottled ? NOT_POSSIBLE : Math.max(0, expectedCases(lot) - lot.allHeld());
        }

        int monthsUntilTooFew(int number) {
            Lot lot = lotAt(number);
            if (lot == null) {
                return INVALID_ARGUMENT;
            }
            if (lot.bottled) {
                return NOT_POSSIBLE;
            }
            int all = lot.allHeld();
            forecast.copyBarrels(lot.barrels);
            for (int months = 0; months <= FARTHEST_MONTH; months++) {
                if (forecast.casesBehind(0) < all) {
                    return months;
                }
                forecast.lose(1);
            }
            return NOT_FOUND;
        }

        int gainByTopping(int number) {
            Lot lot = lotAt(number);
            if (lot == null) {
                return INVALID_ARGUMENT;
            }
            if (!lot.barrels.canBeToppedUp()) {
                return NOT_POSSIBLE;
            }
            forecast.copyBarrels(lot.barrels);
            forecast.topUp();
            return forecast.casesBehind(horizon) - lot.barrels.casesBehind(horizon);
        }

        int greatestLoss(int number, int what) {
            Lot lot = lotAt(number);
            if (lot == null || !within(what, 0, 1)) {
                return INVALID_ARGUMENT;
            }
            if (lot.bottled) {
                return NOT_POSSIBLE;
            }
            int most = 0;
            int whose = 0;
            for (int buyer = 0; buyer < buyerCount; buyer++) {
                int loss = lot.cutOf(buyer, lot.casesNow(), lot.allHeld());
                if (loss > most) {
                    most = loss;
                    whose = buyer;
                }
            }
            if (most == 0) {
                return NOT_FOUND;
            }
            return what == 0 ? whose : most;
        }
    }

    /**
     * The states ahead of the latest changes, in a ring of rows that are used again and again: the
     * row at next is free, those ahead of it hold the states, the latest one nearest.
     */
    private static final class History {
        final Estate[] rows = new Estate[MOST_STATES + 1];
        int next;
        int states;

        History() {
            for (int i = 0; i < rows.length; i++) {
                rows[i] = new Estate();
            }
        }

        /** Only its answer tells whether a call is a change, so that the state ahead of it is put aside first. */
        void draft(Estate now) {
            Estate row = nextRow();
            if (row != null) {
                row.copyEstate(now);
            }
        }

        void keepDraft() {
            next = next >= MOST_STATES ? 0 : next + 1;
            states = Math.min(states + 1, MOST_STATES);
        }

        int restore(Estate now) {
            if (states <= 0) {
                return NOT_POSSIBLE;
            }
            next = next <= 0 ? MOST_STATES : next - 1;
            states--;
            Estate row = nextRow();
            if (row != null) {
                now.copyEstate(row);
            }
            return states;
        }

        Estate nextRow() {
            return next >= 0 && next < rows.length ? rows[next] : null;
        }
    }

    /** The text, and the order of it that was read last. */
    private static final class Orders {
        final int[] signs = new int[MOST_SIGNS];
        final int[] numbers = new int[MOST_NUMBERS];
        int length;
        int kind;
        /** Where reading stopped: behind the order, or where it breaks off. */
        int place;

        int append(int character) {
            if (!within(character, 32, 126)) {
                return INVALID_ARGUMENT;
            }
            if (length < 0 || length >= signs.length) {
                return LIMIT_REACHED;
            }
            signs[length] = character;
            length++;
            return length;
        }

        int empty() {
            int before = length;
            length = 0;
            return before;
        }

        /** The sign at the place, or 0, which no text has, behind the end. */
        int sign() {
            return place >= 0 && place < length && place < signs.length ? signs[place] : 0;
        }

        int numberAt(int index) {
            return index >= 0 && index < numbers.length ? numbers[index] : 0;
        }

        /** Reads the order that begins at start; false if it is not of the form. */
        boolean read(int start) {
            place = start;
            kind = sign();
            int wanted = numbersOf(kind);
            if (wanted == 0) {
                return false;
            }
            place++;
            for (int i = 0; i < wanted; i++) {
                int end = i == wanted - 1 ? ';' : ',';
                if (!readNumber(i) || sign() != end) {
                    return false;
                }
                place++;
            }
            return true;
        }

        int numbersOf(int order) {
            switch (order) {
                case 's': return 4;
                case 'l': return 2;
                case 't': return 2;
                case 'm': return 1;
                case 'b': return 1;
                default: return 0;
            }
        }

        boolean readNumber(int index) {
            int value = 0;
            int digits = 0;
            while (digits < MOST_DIGITS && within(sign(), '0', '9')) {
                value = value * 10 + (sign() - '0');
                place++;
                digits++;
            }
            if (index >= 0 && index < numbers.length) {
                numbers[index] = value;
            }
            return digits > 0;
        }
    }

    /** What becomes of the orders of a text, done on a copy of the estate. */
    private static final class Trial {
        final Estate estate = new Estate();
        int orders;
        int position;
        int reason;
        int cause;

        /** An order that is of the form has more than one sign, so that there are fewer turns than signs. */
        void run(Orders text, Estate now) {
            estate.copyEstate(now);
            orders = 0;
            reason = NO_FAULT;
            int start = 0;
            for (int turn = 0; turn < MOST_SIGNS && start < text.length && reason == NO_FAULT; turn++) {
                boolean formed = text.read(start);
                int answer = formed ? answerOf(text) : 0;
                if (!formed) {
                    blame(start, BAD_FORM, text.place - start);
                } else if (answer < 0) {
                    blame(start, REFUSED, answer);
                } else {
                    orders++;
                }
                start = text.place;
            }
        }

        int answerOf(Orders text) {
            int first = text.numberAt(0);
            int second = text.numberAt(1);
            switch (text.kind) {
                case 'l': return estate.addLot(first, second);
                case 's': return estate.sellFutures(first, second, text.numberAt(2), text.numberAt(3));
                case 't': return estate.tasteLot(first, second);
                case 'm': return estate.passMonths(first);
                default: return estate.bottleLot(first);
            }
        }

        void blame(int start, int why, int by) {
            position = start;
            reason = why;
            cause = by;
        }
    }
}
